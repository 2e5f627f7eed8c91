/-! ===== folding: the cell that comes to a place ===== -/
def ufl (line size : Nat) (turned stays : Bool) : Nat := if turned then 2 * size - 1 - (if stays then line else size + line) else (if stays then line else size + line)
/-- row, column, rows, columns, place in the pile, half of the pile's height -/
abbrev US : Type := Nat × Nat × Nat × Nat × Nat × Nat
def ustep (fd : Nat) (u : US) : US :=
  let tn : Bool := decide (u.2.2.2.2.1 < u.2.2.2.2.2)
  let inp := if tn then u.2.2.2.2.2 - 1 - u.2.2.2.2.1 else u.2.2.2.2.1 - u.2.2.2.2.2
  if fd < 2 then (u.1, ufl u.2.1 u.2.2.2.1 tn (fd == 1), u.2.2.1, u.2.2.2.1 * 2, inp, u.2.2.2.2.2 / 2)
  else (ufl u.1 u.2.2.1 tn (fd == 2), u.2.1, u.2.2.1 * 2, u.2.2.2.1, inp, u.2.2.2.2.2 / 2)
def uall (f : Nat → Nat) (p : Nat) : Nat → US
  | 0 => (0, 0, 1, 1, p, 4)
  | k + 1 => ustep (f (2 - k)) (uall f p k)
/-- the cell that comes to the place p by the folds f 0, f 1, f 2 -/
def unf (f : Nat → Nat) (p : Nat) : Nat := (uall f p 3).1 * 4 + (uall f p 3).2.1
/-- two folds are LEFT or RIGHT (0, 1), one is UP or DOWN (2, 3) -/
def okf (f : Nat → Nat) : Prop := (f 0 < 4 ∧ f 1 < 4 ∧ f 2 < 4) ∧ (if f 0 < 2 then 1 else 0) + (if f 1 < 2 then 1 else 0) + (if f 2 < 2 then 1 else 0) = 2
def uok (u : US) : Prop := u.1 < u.2.2.1 ∧ u.2.1 < u.2.2.2.1 ∧ u.2.2.1 ≤ 8 ∧ u.2.2.2.1 ≤ 8 ∧ u.2.2.2.2.1 < 8 ∧ u.2.2.2.2.2 ≤ 4
theorem ufl_lt {line size : Nat} {tn st : Bool} (h : line < size) : ufl line size tn st < size * 2 := by
  unfold ufl
  cases tn <;> cases st <;> simp <;> omega
theorem ustep_ok {fd : Nat} {u : US} (h : uok u) (hr : u.2.2.1 ≤ 4) (hc : u.2.2.2.1 ≤ 4) : uok (ustep fd u) := by
  obtain ⟨r, c, rs, cs, p, hf⟩ := u
  obtain ⟨h1, h2, h3, h4, h5, h6⟩ := h
  simp only at h1 h2 h3 h4 h5 h6 hr hc
  unfold ustep uok
  by_cases hd : fd < 2
  · simp only [if_pos hd]
    refine ⟨h1, ufl_lt h2, h3, by omega, ?_, by omega⟩
    split <;> omega
  · simp only [if_neg hd]
    refine ⟨ufl_lt h1, h2, by omega, h4, ?_, by omega⟩
    split <;> omega
theorem uall_ok (f : Nat → Nat) {p : Nat} (hp : p < 8) : ∀ k, k ≤ 3 → uok (uall f p k) ∧ (uall f p k).2.2.1 ≤ 2 ^ k ∧ (uall f p k).2.2.2.1 ≤ 2 ^ k := by
  intro k
  induction k with
  | zero => intro _; simp [uok, uall]; exact hp
  | succ k ih =>
    intro hk
    obtain ⟨h1, h2, h3⟩ := ih (by omega)
    have h4 : 2 ^ k ≤ 4 := by
      rcases (show k = 0 ∨ k = 1 ∨ k = 2 by omega) with rfl | rfl | rfl <;> decide
    refine ⟨ustep_ok h1 (by omega) (by omega), ?_, ?_⟩
    · show (ustep _ _).2.2.1 ≤ _
      unfold ustep
      rw [Nat.pow_succ]
      simp only
      split <;> simp only <;> omega
    · show (ustep _ _).2.2.2.1 ≤ _
      unfold ustep
      rw [Nat.pow_succ]
      simp only
      split <;> simp only <;> omega
def bI (x : Bool) : Int32 := if x then nI 1 else nI 0
theorem bI_t : bI true = nI 1 := rfl
theorem bI_f : bI false = nI 0 := rfl
section FoldA
variable {l : Launch} {G : GG} {S : PS}
set_option maxRecDepth 100000 in
theorem c_unfoldLine (hl : l.stackTraces = false) {line size : Nat} (tn st : Bool) (h : line < size) (hs : size ≤ 8) :
    MT l G S yX2_unfoldLine cX2_unfoldLine 5 (some .int) (rmA 0) [.int (nI line), .int (nI size), .int (bI tn), .int (bI st)] (fun v S' => v = some (.int (nI (ufl line size tn st))) ∧ S' = S) (fun _ => False) := by
  refine MT_of (by decide +kernel) hl rfl (Nat.le_of_ble_eq_true rfl) (fun Z hC _ hnm hT hQ => ?_)
  change J G Z S 0 0 0 [some (.int (nI line)), some (.int (nI size)), some (.int (bI tn)), some (.int (bI st)), none] []
  have t2 : ∀ w : Nat, w < 2 * size → (if st then line else size + line) = w → J G Z S 0 0 11 [some (.int (nI line)), some (.int (nI size)), some (.int (bI tn)), some (.int (bI st)), none] [.int (nI w)] := by
    intro w hw hwe
    refine r_istore hC dX2_unfoldLine_11 (by decide) ?_
    refine r_iload_n hC dX2_unfoldLine_13 rfl rfl ?_
    refine r_ifeq (tgt := 28) hC dX2_unfoldLine_14 (by decide) (fun h14 => ?_) (fun h14 => ?_)
    · cases tn with
      | true => exact absurd h14 (by decide)
      | false =>
        refine r_iload hC dX2_unfoldLine_28 rfl ?_
        refine r_iret hC hQ rfl dX2_unfoldLine_30 (Nat.le_of_ble_eq_true rfl) (Nat.le_of_ble_eq_true rfl) ?_
        refine ⟨?_, rfl⟩
        simp only [ufl, hwe]
        rfl
    · cases tn with
      | false => exact absurd rfl h14
      | true =>
        refine r_iconst (v := nI 2) hC dX2_unfoldLine_17 (by decide) ?_
        refine r_iload_n hC dX2_unfoldLine_18 rfl rfl ?_
        refine r_imul hC dX2_unfoldLine_19 ?_
        refine r_iconst (v := nI 1) hC dX2_unfoldLine_20 (by decide) ?_
        refine r_isub hC dX2_unfoldLine_21 ?_
        refine r_iload hC dX2_unfoldLine_22 rfl ?_
        refine r_isub hC dX2_unfoldLine_24 ?_
        refine r_goto (tgt := 30) hC dX2_unfoldLine_25 (by decide) ?_
        refine r_iret hC hQ rfl dX2_unfoldLine_30 (Nat.le_of_ble_eq_true rfl) (Nat.le_of_ble_eq_true rfl) ?_
        refine ⟨?_, rfl⟩
        simp only [ufl, hwe, if_true]
        rw [pk_mul, pk_sub (by omega), pk_sub (by omega)]
  refine r_iload_n hC dX2_unfoldLine_0 rfl rfl ?_
  refine r_ifeq (tgt := 8) hC dX2_unfoldLine_1 (by decide) (fun h1 => ?_) (fun h1 => ?_)
  · cases st with
    | true => exact absurd h1 (by decide)
    | false =>
      refine r_iload_n hC dX2_unfoldLine_8 rfl rfl ?_
      refine r_iload_n hC dX2_unfoldLine_9 rfl rfl ?_
      refine r_iadd hC dX2_unfoldLine_10 ?_
      rw [nI_add]
      exact t2 _ (by omega) rfl
  · cases st with
    | false => exact absurd rfl h1
    | true =>
      refine r_iload_n hC dX2_unfoldLine_4 rfl rfl ?_
      refine r_goto (tgt := 11) hC dX2_unfoldLine_5 (by decide) ?_
      exact t2 _ (by omega) rfl
/-- a folding's object and its row -/
def isFd (S : PS) (d a : Nat) (f : Nat → Nat) : Prop := KD S d 2 ∧ pR S 64 d = some a ∧ KD S a 10 ∧ pN S a = 3 ∧ (∀ i, i < 3 → pA S a i = nI (f i)) ∧ okf f
theorem okf_4 {f : Nat → Nat} (h : okf f) {i : Nat} (hi : i < 3) : f i < 4 := by
  obtain ⟨⟨h0, h1, h2⟩, -⟩ := h
  rcases (show i = 0 ∨ i = 1 ∨ i = 2 by omega) with rfl | rfl | rfl <;> assumption
set_option maxRecDepth 100000 in
set_option maxHeartbeats 1000000 in
theorem c_unfold (hl : l.stackTraces = false) {d a p : Nat} {f : Nat → Nat} (hf : isFd S d a f) (hp : p < 8) :
    MT l G S yX2_unfold cX2_unfold 11 (some .int) (rmA 1) [va_rf (some d), .int (nI p)] (fun v S' => v = some (.int (nI (unf f p))) ∧ S' = S) (fun _ => False) := by
  obtain ⟨kd, rd, ka, na, ha, hok⟩ := hf
  refine MT_of (by decide +kernel) hl rfl (Nat.le_of_ble_eq_true rfl) (fun Z hC hzl hnm hT hQ => ?_)
  change J G Z S 0 0 0 [some (va_rf (some d)), some (.int (nI p)), none, none, none, none, none, none, none, none, none] []
  have hzs : (zl Z).stackTraces = false := by rw [hzl]; exact hl
  have loop : ∀ (m k : Nat), k + m = 3 → ∀ (o9 o10 : Option Value) (i : Int32), (k < 3 → i = nI (2 - k)) → (k = 3 → i = -1) →
      J G Z S 0 0 19 [some (va_rf (some d)), some (.int (nI p)), some (.int (nI (uall f p k).1)), some (.int (nI (uall f p k).2.1)), some (.int (nI (uall f p k).2.2.1)), some (.int (nI (uall f p k).2.2.2.1)), some (.int (nI (uall f p k).2.2.2.2.1)), some (.int (nI (uall f p k).2.2.2.2.2)), some (.int i), o9, o10] [] := by
    intro m
    induction m with
    | zero =>
      intro k hk o9 o10 i _ hi
      have hk : k = 3 := by omega
      subst hk
      have hi := hi rfl
      subst hi
      refine r_iload hC dX2_unfold_19 rfl ?_
      refine r_iflt (tgt := 147) hC dX2_unfold_21 (by decide) (fun h21 => ?_) (fun h21 => ?_)
      · skip
        refine r_iload_n hC dX2_unfold_147 rfl rfl ?_
        refine r_iconst (v := nI 4) hC dX2_unfold_148 (by decide) ?_
        refine r_imul hC dX2_unfold_149 ?_
        refine r_iload_n hC dX2_unfold_150 rfl rfl ?_
        refine r_iadd hC dX2_unfold_151 ?_
        refine r_iret hC hQ rfl dX2_unfold_152 (Nat.le_of_ble_eq_true rfl) (Nat.le_of_ble_eq_true rfl) ?_
        exact ⟨by rw [pk_mul, nI_add]; rfl, rfl⟩
      · exact absurd (by decide) h21
    | succ m ih =>
      intro k hk o9 o10 i hi _
      have hk3 : k < 3 := by omega
      have hi := hi hk3
      subst hi
      obtain ⟨hu, hr2, hc2⟩ := uall_ok f hp k (by omega)
      have h4 : 2 ^ k ≤ 4 := by
        rcases (show k = 0 ∨ k = 1 ∨ k = 2 by omega) with rfl | rfl | rfl <;> decide
      have hus : uall f p (k + 1) = ustep (f (2 - k)) (uall f p k) := rfl
      generalize uall f p k = u at hu hr2 hc2 hus ⊢
      obtain ⟨r, c, rs, cs, q, hh⟩ := u
      obtain ⟨w1, w2, w3, w4, w5, w6⟩ := hu
      dsimp only at w1 w2 w3 w4 w5 w6 hr2 hc2 ⊢
      have hf4 := okf_4 hok (show 2 - k < 3 by omega)
      have fin : ∀ (r' c' rs' cs' q' hh' : Nat) (v9 v10 : Option Value), ustep (f (2 - k)) (r, c, rs, cs, q, hh) = (r', c', rs', cs', q', hh') → J G Z S 0 0 141 [some (va_rf (some d)), some (.int (nI p)), some (.int (nI r')), some (.int (nI c')), some (.int (nI rs')), some (.int (nI cs')), some (.int (nI q')), some (.int (nI hh')), some (.int (nI (2 - k))), v9, v10] [] := by
        intro r' c' rs' cs' q' hh' v9 v10 he
        have hi2 : nI (2 - k) + Int32.ofInt (-1) = (if k + 1 < 3 then nI (2 - (k + 1)) else -1) := by
          rcases (show k = 0 ∨ k = 1 ∨ k = 2 by omega) with rfl | rfl | rfl <;> decide
        refine r_iinc hC dX2_unfold_141 rfl (hi2) ?_
        refine r_goto (tgt := 19) hC dX2_unfold_144 (by decide) ?_
        have h9 := ih (k + 1) (by omega) v9 v10 (if k + 1 < 3 then nI (2 - (k + 1)) else -1) (fun h => if_pos h) (fun h => if_neg (by omega))
        rw [hus, he] at h9
        exact h9
      have j58 : ∀ (tn : Bool) (v10 : Option Value), tn = decide (q < hh) → J G Z S 0 0 58 [some (va_rf (some d)), some (.int (nI p)), some (.int (nI r)), some (.int (nI c)), some (.int (nI rs)), some (.int (nI cs)), some (.int (nI q)), some (.int (nI hh)), some (.int (nI (2 - k))), some (.int (bI tn)), v10] [.int (nI (if tn then hh - 1 - q else q - hh))] := by
        intro tn v10 htn
        refine r_istore hC dX2_unfold_58 (by decide) ?_
        refine r_iload hC dX2_unfold_60 rfl ?_
        refine r_iconst (v := nI 2) hC dX2_unfold_62 (by decide) ?_
        refine r_idiv hC dX2_unfold_63 (by decide) ?_
        refine r_istore hC dX2_unfold_64 (by decide) ?_
        refine r_aload_n hC dX2_unfold_66 rfl rfl ?_
        refine r_getR  hC fl_X2_9 dX2_unfold_67 (kd) (rd) ?_
        refine r_iload hC dX2_unfold_70 rfl ?_
        refine r_iald hC dX2_unfold_72 (ka) (rfl) (by rw [na]; omega) (by rw [na]; decide) (ha _ (by omega)) ?_
        refine r_istore hC dX2_unfold_73 (by decide) ?_
        rw [show nI hh / nI 2 = nI (hh / 2) from pk_div (by omega) (by decide) (by decide)]
        have j86 : f (2 - k) < 2 → J G Z S 0 0 86 [some (va_rf (some d)), some (.int (nI p)), some (.int (nI r)), some (.int (nI c)), some (.int (nI rs)), some (.int (nI cs)), some (.int (nI (if tn then hh - 1 - q else q - hh))), some (.int (nI (hh / 2))), some (.int (nI (2 - k))), some (.int (bI tn)), some (.int (nI (f (2 - k))))] [] := by
          intro hlt
          have j102 : ∀ st : Bool, st = (f (2 - k) == 1) → J G Z S 0 0 102 [some (va_rf (some d)), some (.int (nI p)), some (.int (nI r)), some (.int (nI c)), some (.int (nI rs)), some (.int (nI cs)), some (.int (nI (if tn then hh - 1 - q else q - hh))), some (.int (nI (hh / 2))), some (.int (nI (2 - k))), some (.int (bI tn)), some (.int (nI (f (2 - k))))] [.int (bI st), .int (bI tn), .int (nI cs), .int (nI c)] := by
            intro st hst
            refine r_cS (as := [.int (nI c), .int (nI cs), .int (bI tn), .int (bI st)]) hC (c_unfoldLine hzs tn st w2 w4) cs_X2_unfoldLine q_648 q_649 dX2_unfold_102 rfl rfl ⟨Nat.le_of_ble_eq_true rfl, Nat.le_of_ble_eq_true rfl⟩ (Nat.le_of_ble_eq_true rfl) ⟨Nat.le_of_ble_eq_true rfl, Nat.le_of_ble_eq_true rfl⟩ (fun v102 S102 p102 => ?_) (fun _ x => x.elim)
            obtain ⟨rfl, rfl⟩ := p102
            refine r_istore_n hC dX2_unfold_105 rfl (by decide) ?_
            refine r_iload hC dX2_unfold_106 rfl ?_
            refine r_iconst (v := nI 2) hC dX2_unfold_108 (by decide) ?_
            refine r_imul hC dX2_unfold_109 ?_
            refine r_istore hC dX2_unfold_110 (by decide) ?_
            refine r_goto (tgt := 141) hC dX2_unfold_112 (by decide) ?_
            rw [show nI cs * nI 2 = nI (cs * 2) from pk_mul _ _]
            refine fin _ _ _ _ _ _ _ _ ?_
            simp only [ustep]
            rw [if_pos hlt, htn, hst]
          refine r_iload_n hC dX2_unfold_86 rfl rfl ?_
          refine r_iload hC dX2_unfold_87 rfl ?_
          refine r_iload hC dX2_unfold_89 rfl ?_
          refine r_iload hC dX2_unfold_91 rfl ?_
          refine r_iconst (v := nI 1) hC dX2_unfold_93 (by decide) ?_
          refine r_icne (tgt := 101) hC dX2_unfold_94 (by decide) (fun h94 => ?_) (fun h94 => ?_)
          · skip
            refine r_iconst (v := nI 0) hC dX2_unfold_101 (by decide) ?_
            refine j102 false ?_
            have : f (2 - k) ≠ 1 := fun z => h94 (by rw [z])
            simp [this]
          · skip
            refine r_iconst (v := nI 1) hC dX2_unfold_97 (by decide) ?_
            refine r_goto (tgt := 102) hC dX2_unfold_98 (by decide) ?_
            refine j102 true ?_
            have : f (2 - k) = 1 := (nI_eq (by omega) (by decide)).mp h94
            simp [this]
        have j115 : ¬ f (2 - k) < 2 → J G Z S 0 0 115 [some (va_rf (some d)), some (.int (nI p)), some (.int (nI r)), some (.int (nI c)), some (.int (nI rs)), some (.int (nI cs)), some (.int (nI (if tn then hh - 1 - q else q - hh))), some (.int (nI (hh / 2))), some (.int (nI (2 - k))), some (.int (bI tn)), some (.int (nI (f (2 - k))))] [] := by
          intro hlt
          have j131 : ∀ st : Bool, st = (f (2 - k) == 2) → J G Z S 0 0 131 [some (va_rf (some d)), some (.int (nI p)), some (.int (nI r)), some (.int (nI c)), some (.int (nI rs)), some (.int (nI cs)), some (.int (nI (if tn then hh - 1 - q else q - hh))), some (.int (nI (hh / 2))), some (.int (nI (2 - k))), some (.int (bI tn)), some (.int (nI (f (2 - k))))] [.int (bI st), .int (bI tn), .int (nI rs), .int (nI r)] := by
            intro st hst
            refine r_cS (as := [.int (nI r), .int (nI rs), .int (bI tn), .int (bI st)]) hC (c_unfoldLine hzs tn st w1 w3) cs_X2_unfoldLine q_648 q_649 dX2_unfold_131 rfl rfl ⟨Nat.le_of_ble_eq_true rfl, Nat.le_of_ble_eq_true rfl⟩ (Nat.le_of_ble_eq_true rfl) ⟨Nat.le_of_ble_eq_true rfl, Nat.le_of_ble_eq_true rfl⟩ (fun v131 S131 p131 => ?_) (fun _ x => x.elim)
            obtain ⟨rfl, rfl⟩ := p131
            refine r_istore_n hC dX2_unfold_134 rfl (by decide) ?_
            refine r_iload hC dX2_unfold_135 rfl ?_
            refine r_iconst (v := nI 2) hC dX2_unfold_137 (by decide) ?_
            refine r_imul hC dX2_unfold_138 ?_
            refine r_istore hC dX2_unfold_139 (by decide) ?_
            rw [show nI rs * nI 2 = nI (rs * 2) from pk_mul _ _]
            refine fin _ _ _ _ _ _ _ _ ?_
            simp only [ustep]
            rw [if_neg hlt, htn, hst]
          refine r_iload_n hC dX2_unfold_115 rfl rfl ?_
          refine r_iload hC dX2_unfold_116 rfl ?_
          refine r_iload hC dX2_unfold_118 rfl ?_
          refine r_iload hC dX2_unfold_120 rfl ?_
          refine r_iconst (v := nI 2) hC dX2_unfold_122 (by decide) ?_
          refine r_icne (tgt := 130) hC dX2_unfold_123 (by decide) (fun h123 => ?_) (fun h123 => ?_)
          · skip
            refine r_iconst (v := nI 0) hC dX2_unfold_130 (by decide) ?_
            refine j131 false ?_
            have : f (2 - k) ≠ 2 := fun z => h123 (by rw [z])
            simp [this]
          · skip
            refine r_iconst (v := nI 1) hC dX2_unfold_126 (by decide) ?_
            refine r_goto (tgt := 131) hC dX2_unfold_127 (by decide) ?_
            refine j131 true ?_
            have : f (2 - k) = 2 := (nI_eq (by omega) (by decide)).mp h123
            simp [this]
        refine r_iload hC dX2_unfold_75 rfl ?_
        refine r_ifeq (tgt := 86) hC dX2_unfold_77 (by decide) (fun h77 => ?_) (fun h77 => ?_)
        · refine j86 ?_
          have : f (2 - k) = 0 := (nI_eq (by omega) (by decide)).mp h77
          omega
        · skip
          have h0 : f (2 - k) ≠ 0 := fun z => h77 (by rw [z]; rfl)
          refine r_iload hC dX2_unfold_80 rfl ?_
          refine r_iconst (v := nI 1) hC dX2_unfold_82 (by decide) ?_
          refine r_icne (tgt := 115) hC dX2_unfold_83 (by decide) (fun h83 => ?_) (fun h83 => ?_)
          · refine j115 ?_
            have : f (2 - k) ≠ 1 := fun z => h83 (by rw [z])
            omega
          · refine j86 ?_
            have : f (2 - k) = 1 := (nI_eq (by omega) (by decide)).mp h83
            omega
      have j36 : ∀ (tn : Bool), tn = decide (q < hh) → J G Z S 0 0 36 [some (va_rf (some d)), some (.int (nI p)), some (.int (nI r)), some (.int (nI c)), some (.int (nI rs)), some (.int (nI cs)), some (.int (nI q)), some (.int (nI hh)), some (.int (nI (2 - k))), o9, o10] [.int (bI tn)] := by
        intro tn htn
        refine r_istore hC dX2_unfold_36 (by decide) ?_
        refine r_iload hC dX2_unfold_38 rfl ?_
        refine r_ifeq (tgt := 53) hC dX2_unfold_40 (by decide) (fun h40 => ?_) (fun h40 => ?_)
        · cases tn with
          | true => exact absurd h40 (by decide)
          | false =>
            refine r_iload hC dX2_unfold_53 rfl ?_
            refine r_iload hC dX2_unfold_55 rfl ?_
            refine r_isub hC dX2_unfold_57 ?_
            rw [show nI q - nI hh = nI (q - hh) from pk_sub (by have := of_decide_eq_false htn.symm; omega)]
            exact j58 false o10 htn
        · cases tn with
          | false => exact absurd rfl h40
          | true =>
            refine r_iload hC dX2_unfold_43 rfl ?_
            refine r_iconst (v := nI 1) hC dX2_unfold_45 (by decide) ?_
            refine r_isub hC dX2_unfold_46 ?_
            refine r_iload hC dX2_unfold_47 rfl ?_
            refine r_isub hC dX2_unfold_49 ?_
            refine r_goto (tgt := 58) hC dX2_unfold_50 (by decide) ?_
            have hlt := of_decide_eq_true htn.symm
            rw [show nI hh - nI 1 = nI (hh - 1) from pk_sub (by omega), show nI (hh - 1) - nI q = nI (hh - 1 - q) from pk_sub (by omega)]
            exact j58 true o10 htn
      refine r_iload hC dX2_unfold_19 rfl ?_
      refine r_iflt (tgt := 147) hC dX2_unfold_21 (by decide) (fun h21 => ?_) (fun h21 => ?_)
      · exact absurd h21 (nI_pos (by omega))
      · skip
        refine r_iload hC dX2_unfold_24 rfl ?_
        refine r_iload hC dX2_unfold_26 rfl ?_
        refine r_icge (tgt := 35) hC dX2_unfold_28 (by decide) (fun h28 => ?_) (fun h28 => ?_)
        · have hge := (nI_leI (by omega) (by omega)).mp h28
          refine r_iconst (v := nI 0) hC dX2_unfold_35 (by decide) ?_
          exact j36 false (by simp; omega)
        · have hlt : q < hh := Nat.lt_of_not_le (fun z => h28 (nI_le z (by omega)))
          refine r_iconst (v := nI 1) hC dX2_unfold_31 (by decide) ?_
          refine r_goto (tgt := 36) hC dX2_unfold_32 (by decide) ?_
          exact j36 true (by simp; omega)
  refine r_iconst (v := nI 0) hC dX2_unfold_0 (by decide) ?_
  refine r_istore_n hC dX2_unfold_1 rfl (by decide) ?_
  refine r_iconst (v := nI 0) hC dX2_unfold_2 (by decide) ?_
  refine r_istore_n hC dX2_unfold_3 rfl (by decide) ?_
  refine r_iconst (v := nI 1) hC dX2_unfold_4 (by decide) ?_
  refine r_istore hC dX2_unfold_5 (by decide) ?_
  refine r_iconst (v := nI 1) hC dX2_unfold_7 (by decide) ?_
  refine r_istore hC dX2_unfold_8 (by decide) ?_
  refine r_iload_n hC dX2_unfold_10 rfl rfl ?_
  refine r_istore hC dX2_unfold_11 (by decide) ?_
  refine r_iconst (v := nI 4) hC dX2_unfold_13 (by decide) ?_
  refine r_istore hC dX2_unfold_14 (by decide) ?_
  refine r_iconst (v := nI 2) hC dX2_unfold_16 (by decide) ?_
  refine r_istore hC dX2_unfold_17 (by decide) ?_
  exact loop 3 0 (by omega) none none _ (fun _ => rfl) (fun h => absurd h (by decide))
end FoldA

