/-! ===== the model: its memory as numbers N and rows R ===== -/
def mR (k : Nat) : Bool := (flds 8).getD k false
def mkd (k : Nat) : Nat := if k = 16 then 11 else 10
def mlen : Nat → Nat
  | 1 => 4 | 2 => 32 | 3 => 32 | 4 => 32 | 6 => 5 | 7 => 5 | 8 => 15 | 9 => 645 | 10 => 645 | 11 => 645 | 12 => 3 | 13 => 8 | 15 => 400 | 16 => 50 | 17 => 2 | 20 => 5 | 21 => 645
  | _ => 0
theorem mlen_le (k : Nat) : mlen k ≤ 645 := by
  unfold mlen
  split <;> omega
def MM (S : PS) (tg : TG) (md : Nat) (V : Nat → Nat) (N : Nat → Int32) (R : Nat → Nat → Int32) : Prop :=
  KD S md 8 ∧ (∀ k, mR k = true → pR S (256 + k) md = some (V k) ∧ KD S (V k) (mkd k) ∧ pN S (V k) = mlen k ∧ tg (V k) = 0 ∧ pA S (V k) = R k) ∧ (∀ k k', mR k = true → mR k' = true → V k = V k' → k = k') ∧ ∀ k, mR k = false → k < 24 → pI S (256 + k) md = N k
def uN (N : Nat → Int32) (k : Nat) (v : Int32) : Nat → Int32 := fun k' => if k' = k then v else N k'
def uR (R : Nat → Nat → Int32) (k : Nat) (g : Nat → Int32) : Nat → Nat → Int32 := fun k' => if k' = k then g else R k'
theorem uN_s (N : Nat → Int32) (k : Nat) (v : Int32) : uN N k v k = v := if_pos rfl
theorem uN_n (N : Nat → Int32) {k k' : Nat} (v : Int32) (h : k' ≠ k) : uN N k v k' = N k' := if_neg h
theorem uR_s (R : Nat → Nat → Int32) (k : Nat) (g : Nat → Int32) : uR R k g k = g := if_pos rfl
theorem uR_n (R : Nat → Nat → Int32) {k k' : Nat} (g : Nat → Int32) (h : k' ≠ k) : uR R k g k' = R k' := if_neg h
/-- what the model's calls leave of all other things -/
def FrM (tg : TG) (S S' : PS) : Prop := Ex S S' (fun f _ => 256 ≤ f ∧ f < 288) x2 (fun y => tg y = 0) x0
theorem FrM.rf {tg : TG} {S : PS} : FrM tg S S := Ex.rf
theorem FrM.tr {tg : TG} {S S1 S2 : PS} (h1 : FrM tg S S1) (h2 : FrM tg S1 S2) : FrM tg S S2 := Ex.tr h1 h2
def MX (S S' : PS) (tg : TG) (md : Nat) (V : Nat → Nat) (N : Nat → Int32) (R : Nat → Nat → Int32) : Prop := MM S' tg md V N R ∧ FrM tg S S'
section ModelA
variable {l : Launch} {G : GG} {S S0 S' : PS} {tg tg' : TG} {md : Nat} {V : Nat → Nat} {N : Nat → Int32} {R : Nat → Nat → Int32}
theorem MM.kd (h : MM S tg md V N R) : KD S md 8 := h.1
theorem MM.r (h : MM S tg md V N R) (k : Nat) (hk : mR k = true) : pR S (256 + k) md = some (V k) := (h.2.1 k hk).1
theorem MM.k (h : MM S tg md V N R) (k : Nat) (hk : mR k = true) : KD S (V k) (mkd k) := (h.2.1 k hk).2.1
theorem MM.ln (h : MM S tg md V N R) (k : Nat) (hk : mR k = true) : pN S (V k) = mlen k := (h.2.1 k hk).2.2.1
theorem MM.t (h : MM S tg md V N R) (k : Nat) (hk : mR k = true) : tg (V k) = 0 := (h.2.1 k hk).2.2.2.1
theorem MM.a (h : MM S tg md V N R) (k : Nat) (hk : mR k = true) : pA S (V k) = R k := (h.2.1 k hk).2.2.2.2
theorem MM.n (h : MM S tg md V N R) (k : Nat) (hk : mR k = false) (h24 : k < 24 := by decide) : pI S (256 + k) md = N k := h.2.2.2 k hk h24
theorem MM.lt (h : MM S tg md V N R) (k : Nat) (hk : mR k = true) {j : Nat} (hj : j < mlen k) : j < pN S (V k) := by rw [h.ln k hk]; exact hj
theorem MM.b (h : MM S tg md V N R) (k : Nat) (hk : mR k = true) : pN S (V k) < 2147483648 := by
  rw [h.ln k hk]
  have := mlen_le k
  omega
theorem MM.sn (h : MM S tg md V N R) (k : Nat) (hk : mR k = false) (v : Int32) : MM (sI S (256 + k) md v) tg md V (uN N k v) R := by
  obtain ⟨h1, h2, h3, h4⟩ := h
  refine ⟨h1, h2, h3, fun k' hk' h24 => ?_⟩
  by_cases hz : k' = k
  · rw [hz, uN_s]; exact I_s S (256 + k) md v
  · rw [uN_n _ _ hz, I_f _ _ _ _ (by omega)]
    exact h4 k' hk' h24
theorem MM.st (h : MM S tg md V N R) (k : Nat) (hk : mR k = true) (g : Nat → Int32) : MM (sA S (V k) g) tg md V N (uR R k g) := by
  obtain ⟨h1, h2, h3, h4⟩ := h
  refine ⟨h1, fun k' hk' => ?_, h3, h4⟩
  obtain ⟨q1, q2, q3, q4, q5⟩ := h2 k' hk'
  refine ⟨q1, q2, q3, q4, ?_⟩
  by_cases hz : k' = k
  · rw [hz, uR_s]; exact A_s S (V k) g
  · rw [uR_n _ _ hz, A_n _ _ (fun z => hz (h3 k' k hk' hk z))]
    exact q5
theorem MX.rf (h : MM S tg md V N R) : MX S S tg md V N R := ⟨h, FrM.rf⟩
theorem MX.tr {S1 S2 : PS} {N1 : Nat → Int32} {R1 : Nat → Nat → Int32} (h : MX S S1 tg md V N R) (h2 : MX S1 S2 tg md V N1 R1) : MX S S2 tg md V N1 R1 := ⟨h2.1, h.2.tr h2.2⟩
theorem MX.sn (h : MX S0 S tg md V N R) (k : Nat) (hk : mR k = false) (v : Int32) (h24 : k < 24 := by decide) : MX S0 (sI S (256 + k) md v) tg md V (uN N k v) R :=
  ⟨h.1.sn k hk v, Ex.tI h.2 (Or.inl ⟨by omega, by omega⟩)⟩
theorem MX.st (h : MX S0 S tg md V N R) (k : Nat) (hk : mR k = true) (g : Nat → Int32) : MX S0 (sA S (V k) g) tg md V N (uR R k g) :=
  ⟨h.1.st k hk g, Ex.tA h.2 (Or.inl (h.1.t k hk))⟩
theorem MM.frC (h : MM S tg md V N R) (hf : FrC tg S S' tg') : MM S' tg' md V N R := by
  obtain ⟨h1, h2, h3, h4⟩ := h
  obtain ⟨hx, ht⟩ := hf
  have hm := hx md h1.1
  refine ⟨hx.kd h1, fun k hk => ?_, h3, fun k hk h24 => (hm.2.2.2.1 _ (by omega)).trans (h4 k hk h24)⟩
  obtain ⟨q1, q2, q3, q4, q5⟩ := h2 k hk
  have hk24 : k < 24 := by
    refine Classical.byContradiction (fun z => ?_)
    have : mR k = false := by
      unfold mR
      rw [List.getD_eq_getElem?_getD, List.getElem?_eq_none_iff.mpr (by show 24 ≤ k; omega)]
      rfl
    rw [this] at hk
    cases hk
  have hv := hx _ q2.1
  refine ⟨(hm.2.2.2.2.1 _ (by omega)).trans q1, hx.kd q2, hv.2.2.1.trans q3, (ht _ q2.1).trans q4, ?_⟩
  rw [hv.2.2.2.2.2.1 (fun z => z q4)]
  exact q5
theorem CL.frM {W : WT} {A : AS} {t : Nat} (h : CL G S tg W A t) (hf : FrM tg S S') (hg : gE G ∉ pL S') : CL G S' tg W A t := by
  obtain ⟨⟨hv, hb, ho, hs, hr⟩, hF⟩ := h
  exact ⟨⟨hv, hb.ex hv hf (fun _ _ => rfl) hg (fun f y h z => by omega) (fun _ _ _ z => z) (fun y h1 h2 z => by have z' : tg y = 0 := z; omega) (fun z => by omega) (fun z => z) (fun _ _ _ z => z),
    ho.ex hv hs.sc hf (fun _ _ => rfl) hg (fun f y h1 h2 z => by omega) (fun _ _ _ _ z => z) (fun _ _ _ z => z) (fun _ _ z => by omega) (fun _ _ z => z),
    hs.ex hv ho.lv hf (fun _ _ => rfl) hg (fun f y h z => by omega) (fun _ _ _ z => z) (fun y h z => by have z' : tg y = 0 := z; omega) (fun _ _ _ z => z) (fun z => by omega) (fun z => z),
    hr.ex hf (fun _ _ => rfl) (fun f y h z => by omega) (fun _ _ _ z => z) (fun y h z => by have z' : tg y = 0 := z; omega)⟩, hF⟩
theorem ixb_iff {x : Int32} {n : Nat} (hn : n < 2147483648) : (nI 0 ≤ x ∧ x ≤ nI n - nI 1) ↔ ixb x n = true := by
  have e : (nI n - nI 1).toInt = (n : Int) - 1 := by
    rcases Nat.eq_zero_or_pos n with z | z
    · subst z; decide
    · rw [pk_sub (show 1 ≤ n by omega), nI_toInt (by omega)]
      omega
  unfold ixb
  rw [decide_eq_true_eq, Int32.le_iff_toInt_le, Int32.le_iff_toInt_le, e, show (nI 0).toInt = 0 from by decide]
  omega
set_option maxRecDepth 100000 in
theorem m_isIn (hl : l.stackTraces = false) (x a b : Int32) :
    MT l G S yX8_isIn cX8_isIn 3 (some .boolean) (rmA 0) [.int x, .int a, .int b] (fun v S' => v = some (.int (bI (decide (a ≤ x ∧ x ≤ b)))) ∧ S' = S) (fun _ => False) := by
  refine MT_of (by decide +kernel) hl rfl (Nat.le_of_ble_eq_true rfl) (fun Z hC hzl hnm hT hQ => ?_)
  change J G Z S 0 0 0 [some (.int x), some (.int a), some (.int b)] []
  refine r_iload_n hC dX8_isIn_0 rfl rfl ?_
  refine r_iload_n hC dX8_isIn_1 rfl rfl ?_
  refine r_iclt (tgt := 14) hC dX8_isIn_2 (by decide) (fun h2 => ?_) (fun h2 => ?_)
  · skip
    refine r_iconst (v := nI 0) hC dX8_isIn_14 (by decide) ?_
    refine r_zret hC hQ rfl (by decide) dX8_isIn_15 (Nat.le_of_ble_eq_true rfl) (Nat.le_of_ble_eq_true rfl) ?_
    rw [decide_eq_false (fun z => absurd h2 (Int32.not_lt.mpr z.1))]
    exact ⟨rfl, rfl⟩
  · skip
    refine r_iload_n hC dX8_isIn_5 rfl rfl ?_
    refine r_iload_n hC dX8_isIn_6 rfl rfl ?_
    refine r_icgt (tgt := 14) hC dX8_isIn_7 (by decide) (fun h7 => ?_) (fun h7 => ?_)
    · skip
      refine r_iconst (v := nI 0) hC dX8_isIn_14 (by decide) ?_
      refine r_zret hC hQ rfl (by decide) dX8_isIn_15 (Nat.le_of_ble_eq_true rfl) (Nat.le_of_ble_eq_true rfl) ?_
      rw [decide_eq_false (fun z => absurd h7 (Int32.not_lt.mpr z.2))]
      exact ⟨rfl, rfl⟩
    · skip
      refine r_iconst (v := nI 1) hC dX8_isIn_10 (by decide) ?_
      refine r_goto (tgt := 15) hC dX8_isIn_11 (by decide) ?_
      refine r_zret hC hQ rfl (by decide) dX8_isIn_15 (Nat.le_of_ble_eq_true rfl) (Nat.le_of_ble_eq_true rfl) ?_
      rw [decide_eq_true ⟨Int32.not_lt.mp h2, Int32.not_lt.mp h7⟩]
      exact ⟨rfl, rfl⟩
theorem m_isInX (hl : l.stackTraces = false) (x : Int32) {n : Nat} (hn : n < 2147483648) :
    MT l G S yX8_isIn cX8_isIn 3 (some .boolean) (rmA 0) [.int x, .int (nI 0), .int (nI n - nI 1)] (fun v S' => v = some (.int (bI (ixb x n))) ∧ S' = S) (fun _ => False) := by
  have := m_isIn (G := G) (S := S) hl x (nI 0) (nI n - nI 1)
  rw [show decide (nI 0 ≤ x ∧ x ≤ nI n - nI 1) = ixb x n from by rw [Bool.eq_iff_iff, decide_eq_true_eq, ixb_iff hn]] at this
  exact this
set_option maxRecDepth 100000 in
theorem m_goes (hl : l.stackTraces = false) (hM : MM S tg md V N R) (x : Int32) :
    MT l G S yX8_goes cX8_goes 2 (some .boolean) (rmA 0) [va_rf (some md), .int x] (fun v S' => v = some (.int (bI (decide (x = 0)))) ∧ MX S S' tg md V (uN N 23 x) R) (fun _ => False) := by
  refine MT_of (by decide +kernel) hl rfl (Nat.le_of_ble_eq_true rfl) (fun Z hC hzl hnm hT hQ => ?_)
  change J G Z S 0 0 0 [some (va_rf (some md)), some (.int x)] []
  have hq : MX S (sI S 279 md x) tg md V (uN N 23 x) R := (MX.rf hM).sn 23 rfl x
  refine r_aload_n hC dX8_goes_0 rfl rfl ?_
  refine r_iload_n hC dX8_goes_1 rfl rfl ?_
  refine r_putI hC fl_X8_69 rfl (by decide) dX8_goes_2 (hM.kd) (fun h => absurd h (by decide)) ?_
  refine r_iload_n hC dX8_goes_5 rfl rfl ?_
  refine r_ifne (tgt := 13) hC dX8_goes_6 (by decide) (fun h6 => ?_) (fun h6 => ?_)
  · refine r_iconst (v := nI 0) hC dX8_goes_13 (by decide) ?_
    refine r_zret hC hQ rfl (by decide) dX8_goes_14 (Nat.le_of_ble_eq_true rfl) (Nat.le_of_ble_eq_true rfl) ?_
    rw [decide_eq_false h6]
    exact ⟨rfl, hq⟩
  · refine r_iconst (v := nI 1) hC dX8_goes_9 (by decide) ?_
    refine r_goto (tgt := 14) hC dX8_goes_10 (by decide) ?_
    refine r_zret hC hQ rfl (by decide) dX8_goes_14 (Nat.le_of_ble_eq_true rfl) (Nat.le_of_ble_eq_true rfl) ?_
    rw [decide_eq_true h6]
    exact ⟨rfl, hq⟩
set_option maxRecDepth 100000 in
theorem m_thrown (hl : l.stackTraces = false) (hM : MM S tg md V N R) :
    MT l G S yX8_thrown cX8_thrown 1 (some .int) (rmA 0) [va_rf (some md)] (fun v S' => v = some (.int (N 23)) ∧ S' = S) (fun _ => False) := by
  refine MT_of (by decide +kernel) hl rfl (Nat.le_of_ble_eq_true rfl) (fun Z hC hzl hnm hT hQ => ?_)
  change J G Z S 0 0 0 [some (va_rf (some md))] []
  refine r_aload_n hC dX8_thrown_0 rfl rfl ?_
  refine r_getI hC fl_X8_69 rfl dX8_thrown_1 (hM.kd) (hM.n 23 rfl) ?_
  refine r_iret hC hQ rfl dX8_thrown_4 (Nat.le_of_ble_eq_true rfl) (Nat.le_of_ble_eq_true rfl) ?_
  exact ⟨rfl, rfl⟩
set_option maxRecDepth 100000 in
theorem m_isBook (hl : l.stackTraces = false) (hM : MM S tg md V N R) (x : Int32) {n : Nat} (hn : n ≤ 4) (e : N 0 = nI n) :
    MT l G S yX8_isBook cX8_isBook 2 (some .boolean) (rmA 1) [va_rf (some md), .int x] (fun v S' => v = some (.int (bI (ixb x n))) ∧ S' = S) (fun _ => False) := by
  refine MT_of (by decide +kernel) hl rfl (Nat.le_of_ble_eq_true rfl) (fun Z hC hzl hnm hT hQ => ?_)
  change J G Z S 0 0 0 [some (va_rf (some md)), some (.int x)] []
  have hzs : (zl Z).stackTraces = false := by rw [hzl]; exact hl
  refine r_iload_n hC dX8_isBook_0 rfl rfl ?_
  refine r_iconst (v := nI 0) hC dX8_isBook_1 (by decide) ?_
  refine r_aload_n hC dX8_isBook_2 rfl rfl ?_
  refine r_getI hC fl_X8_72 rfl dX8_isBook_3 (hM.kd) ((hM.n 0 rfl).trans e) ?_
  refine r_iconst (v := nI 1) hC dX8_isBook_6 (by decide) ?_
  refine r_isub hC dX8_isBook_7 ?_
  refine r_cS (as := [.int x, .int (nI 0), .int (nI n - nI 1)]) hC (m_isInX hzs x (n := n) (by omega)) cs_X8_isIn q_1022 q_1023 dX8_isBook_8 rfl rfl ⟨Nat.le_of_ble_eq_true rfl, Nat.le_of_ble_eq_true rfl⟩ (Nat.le_of_ble_eq_true rfl) ⟨Nat.le_of_ble_eq_true rfl, Nat.le_of_ble_eq_true rfl⟩ (fun v8 S8 p8 => ?_) (fun _ x => x.elim)
  obtain ⟨rfl, e8⟩ := p8
  rw [e8]
  refine r_zret hC hQ rfl (by cases ixb x n <;> decide) dX8_isBook_11 (Nat.le_of_ble_eq_true rfl) (Nat.le_of_ble_eq_true rfl) ?_
  exact ⟨rfl, rfl⟩
set_option maxRecDepth 100000 in
theorem m_isOrder (hl : l.stackTraces = false) (hM : MM S tg md V N R) (x : Int32) {n : Nat} (hn : n ≤ 5) (e : N 5 = nI n) :
    MT l G S yX8_isOrder cX8_isOrder 2 (some .boolean) (rmA 1) [va_rf (some md), .int x] (fun v S' => v = some (.int (bI (ixb x n))) ∧ S' = S) (fun _ => False) := by
  refine MT_of (by decide +kernel) hl rfl (Nat.le_of_ble_eq_true rfl) (fun Z hC hzl hnm hT hQ => ?_)
  change J G Z S 0 0 0 [some (va_rf (some md)), some (.int x)] []
  have hzs : (zl Z).stackTraces = false := by rw [hzl]; exact hl
  refine r_iload_n hC dX8_isOrder_0 rfl rfl ?_
  refine r_iconst (v := nI 0) hC dX8_isOrder_1 (by decide) ?_
  refine r_aload_n hC dX8_isOrder_2 rfl rfl ?_
  refine r_getI hC fl_X8_79 rfl dX8_isOrder_3 (hM.kd) ((hM.n 5 rfl).trans e) ?_
  refine r_iconst (v := nI 1) hC dX8_isOrder_6 (by decide) ?_
  refine r_isub hC dX8_isOrder_7 ?_
  refine r_cS (as := [.int x, .int (nI 0), .int (nI n - nI 1)]) hC (m_isInX hzs x (n := n) (by omega)) cs_X8_isIn q_1022 q_1023 dX8_isOrder_8 rfl rfl ⟨Nat.le_of_ble_eq_true rfl, Nat.le_of_ble_eq_true rfl⟩ (Nat.le_of_ble_eq_true rfl) ⟨Nat.le_of_ble_eq_true rfl, Nat.le_of_ble_eq_true rfl⟩ (fun v8 S8 p8 => ?_) (fun _ x => x.elim)
  obtain ⟨rfl, e8⟩ := p8
  rw [e8]
  refine r_zret hC hQ rfl (by cases ixb x n <;> decide) dX8_isOrder_11 (Nat.le_of_ble_eq_true rfl) (Nat.le_of_ble_eq_true rfl) ?_
  exact ⟨rfl, rfl⟩
set_option maxRecDepth 100000 in
theorem m_leafAt (hl : l.stackTraces = false) (o c f : Nat) :
    MT l G S yX8_leafAt cX8_leafAt 3 (some .int) (rmA 0) [.int (nI o), .int (nI c), .int (nI f)] (fun v S' => v = some (.int (nI (43 * (3 * o + c) + f))) ∧ S' = S) (fun _ => False) := by
  refine MT_of (by decide +kernel) hl rfl (Nat.le_of_ble_eq_true rfl) (fun Z hC hzl hnm hT hQ => ?_)
  change J G Z S 0 0 0 [some (.int (nI o)), some (.int (nI c)), some (.int (nI f))] []
  refine r_bipush (v := nI 43) hC dX8_leafAt_0 (by decide) ?_
  refine r_iconst (v := nI 3) hC dX8_leafAt_2 (by decide) ?_
  refine r_iload_n hC dX8_leafAt_3 rfl rfl ?_
  refine r_imul hC dX8_leafAt_4 ?_
  rw [pk_mul]
  refine r_iload_n hC dX8_leafAt_5 rfl rfl ?_
  refine r_iadd hC dX8_leafAt_6 ?_
  rw [nI_add]
  refine r_imul hC dX8_leafAt_7 ?_
  rw [pk_mul]
  refine r_iload_n hC dX8_leafAt_8 rfl rfl ?_
  refine r_iadd hC dX8_leafAt_9 ?_
  rw [nI_add]
  refine r_iret hC hQ rfl dX8_leafAt_10 (Nat.le_of_ble_eq_true rfl) (Nat.le_of_ble_eq_true rfl) ?_
  exact ⟨rfl, rfl⟩
end ModelA

