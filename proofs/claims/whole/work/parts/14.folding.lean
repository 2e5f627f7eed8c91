/-! ===== folding: the cell that comes to a place ===== -/
def ufl (line size : Nat) (turned stays : Bool) : Nat := if turned then 2 * size - 1 - (if stays then line else size + line) else (if stays then line else size + line)
/-- row, column, rows, columns, place in the pile, half of the pile's height -/
abbrev US : Type := Nat × Nat × Nat × Nat × Nat × Nat
def ustep (fd : Nat) (u : US) : US :=
  let tn : Bool := decide (u.2.2.2.2.1 < u.2.2.2.2.2)
  let inp := if tn then u.2.2.2.2.2 - 1 - u.2.2.2.2.1 else u.2.2.2.2.1 - u.2.2.2.2.2
  if fd < 2 then (u.1, ufl u.2.1 u.2.2.2.1 tn (fd == 1), u.2.2.1, u.2.2.2.1 * 2, inp, u.2.2.2.2.2 / 2)
  else (ufl u.1 u.2.2.1 tn (fd == 2), u.2.1, u.2.2.1 * 2, u.2.2.2.1, inp, u.2.2.2.2.2 / 2)
def uall (f : Nat → Nat) (p : Nat) : Nat → US
  | 0 => (0, 0, 1, 1, p, 4)
  | k + 1 => ustep (f (2 - k)) (uall f p k)
/-- the cell that comes to the place p by the folds f 0, f 1, f 2 -/
def unf (f : Nat → Nat) (p : Nat) : Nat := (uall f p 3).1 * 4 + (uall f p 3).2.1
/-- two folds are LEFT or RIGHT (0, 1), one is UP or DOWN (2, 3) -/
def okf (f : Nat → Nat) : Prop := (f 0 < 4 ∧ f 1 < 4 ∧ f 2 < 4) ∧ (if f 0 < 2 then 1 else 0) + (if f 1 < 2 then 1 else 0) + (if f 2 < 2 then 1 else 0) = 2
def uok (u : US) : Prop := u.1 < u.2.2.1 ∧ u.2.1 < u.2.2.2.1 ∧ u.2.2.1 ≤ 8 ∧ u.2.2.2.1 ≤ 8 ∧ u.2.2.2.2.1 < 8 ∧ u.2.2.2.2.2 ≤ 4
theorem ufl_lt {line size : Nat} {tn st : Bool} (h : line < size) : ufl line size tn st < size * 2 := by
  unfold ufl
  cases tn <;> cases st <;> simp <;> omega
theorem ustep_ok {fd : Nat} {u : US} (h : uok u) (hr : u.2.2.1 ≤ 4) (hc : u.2.2.2.1 ≤ 4) : uok (ustep fd u) := by
  obtain ⟨r, c, rs, cs, p, hf⟩ := u
  obtain ⟨h1, h2, h3, h4, h5, h6⟩ := h
  simp only at h1 h2 h3 h4 h5 h6 hr hc
  unfold ustep uok
  by_cases hd : fd < 2
  · simp only [if_pos hd]
    refine ⟨h1, ufl_lt h2, h3, by omega, ?_, by omega⟩
    split <;> omega
  · simp only [if_neg hd]
    refine ⟨ufl_lt h1, h2, by omega, h4, ?_, by omega⟩
    split <;> omega
theorem uall_ok (f : Nat → Nat) {p : Nat} (hp : p < 8) : ∀ k, k ≤ 3 → uok (uall f p k) ∧ (uall f p k).2.2.1 ≤ 2 ^ k ∧ (uall f p k).2.2.2.1 ≤ 2 ^ k := by
  intro k
  induction k with
  | zero => intro _; exact ⟨⟨by decide, by decide, by decide, by decide, hp, by decide⟩, by decide, by decide⟩
  | succ k ih =>
    intro hk
    obtain ⟨h1, h2, h3⟩ := ih (by omega)
    have h4 : 2 ^ k ≤ 4 := by
      rcases (show k = 0 ∨ k = 1 ∨ k = 2 by omega) with rfl | rfl | rfl <;> decide
    refine ⟨ustep_ok h1 (by omega) (by omega), ?_, ?_⟩
    · show (ustep _ _).2.2.1 ≤ _
      unfold ustep
      rw [Nat.pow_succ]
      simp only
      split <;> simp only <;> omega
    · show (ustep _ _).2.2.2.1 ≤ _
      unfold ustep
      rw [Nat.pow_succ]
      simp only
      split <;> simp only <;> omega
def bI (x : Bool) : Int32 := if x then nI 1 else nI 0
theorem bI_t : bI true = nI 1 := rfl
theorem bI_f : bI false = nI 0 := rfl
section FoldA
variable {l : Launch} {G : GG} {S : PS}
set_option maxRecDepth 100000 in
theorem c_unfoldLine (hl : l.stackTraces = false) {line size : Nat} (tn st : Bool) (h : line < size) (hs : size ≤ 8) :
    MT l G S yX2_unfoldLine cX2_unfoldLine 5 (some .int) (rmA 0) [.int (nI line), .int (nI size), .int (bI tn), .int (bI st)] (fun v S' => v = some (.int (nI (ufl line size tn st))) ∧ S' = S) (fun _ => False) := by
  refine MT_of (by decide +kernel) hl rfl (Nat.le_of_ble_eq_true rfl) (fun Z hC _ hnm hT hQ => ?_)
  change J G Z S 0 0 0 [some (.int (nI line)), some (.int (nI size)), some (.int (bI tn)), some (.int (bI st)), none] []
  have tail : ∀ w : Nat, w < 2 * size → J G Z S 0 0 11 [some (.int (nI line)), some (.int (nI size)), some (.int (bI tn)), some (.int (bI st)), none] [.int (nI w)] → True := fun _ _ _ => trivial
  have t2 : ∀ w : Nat, w < 2 * size → (if st then line else size + line) = w → J G Z S 0 0 11 [some (.int (nI line)), some (.int (nI size)), some (.int (bI tn)), some (.int (bI st)), none] [.int (nI w)] := by
    intro w hw hwe
    refine r_istore hC dX2_unfoldLine_11 (by decide) ?_
    refine r_iload_n hC dX2_unfoldLine_13 rfl rfl ?_
    refine r_ifeq (tgt := 28) hC dX2_unfoldLine_14 (by decide) (fun h14 => ?_) (fun h14 => ?_)
    · cases tn with
      | true => exact absurd h14 (by decide)
      | false =>
        refine r_iload hC dX2_unfoldLine_28 rfl ?_
        refine r_iret hC hQ rfl dX2_unfoldLine_30 (Nat.le_of_ble_eq_true rfl) (Nat.le_of_ble_eq_true rfl) ?_
        refine ⟨?_, rfl⟩
        simp only [ufl, hwe]
        rfl
    · cases tn with
      | false => exact absurd rfl h14
      | true =>
        refine r_iconst (v := nI 2) hC dX2_unfoldLine_17 (by decide) ?_
        refine r_iload_n hC dX2_unfoldLine_18 rfl rfl ?_
        refine r_imul hC dX2_unfoldLine_19 ?_
        refine r_iconst (v := nI 1) hC dX2_unfoldLine_20 (by decide) ?_
        refine r_isub hC dX2_unfoldLine_21 ?_
        refine r_iload hC dX2_unfoldLine_22 rfl ?_
        refine r_isub hC dX2_unfoldLine_24 ?_
        refine r_goto (tgt := 30) hC dX2_unfoldLine_25 (by decide) ?_
        refine r_iret hC hQ rfl dX2_unfoldLine_30 (Nat.le_of_ble_eq_true rfl) (Nat.le_of_ble_eq_true rfl) ?_
        refine ⟨?_, rfl⟩
        simp only [ufl, hwe, if_true]
        rw [pk_mul, pk_sub (by omega), pk_sub (by omega)]
  refine r_iload_n hC dX2_unfoldLine_0 rfl rfl ?_
  refine r_ifeq (tgt := 8) hC dX2_unfoldLine_1 (by decide) (fun h1 => ?_) (fun h1 => ?_)
  · cases st with
    | true => exact absurd h1 (by decide)
    | false =>
      refine r_iload_n hC dX2_unfoldLine_8 rfl rfl ?_
      refine r_iload_n hC dX2_unfoldLine_9 rfl rfl ?_
      refine r_iadd hC dX2_unfoldLine_10 ?_
      rw [nI_add]
      exact t2 _ (by omega) rfl
  · cases st with
    | false => exact absurd rfl h1
    | true =>
      refine r_iload_n hC dX2_unfoldLine_4 rfl rfl ?_
      refine r_goto (tgt := 11) hC dX2_unfoldLine_5 (by decide) ?_
      exact t2 _ (by omega) rfl
/-- a folding's object and its row -/
def isFd (S : PS) (d a : Nat) (f : Nat → Nat) : Prop := KD S d 2 ∧ pR S 64 d = some a ∧ KD S a 10 ∧ pN S a = 3 ∧ (∀ i, i < 3 → pA S a i = nI (f i)) ∧ okf f
theorem okf_4 {f : Nat → Nat} (h : okf f) {i : Nat} (hi : i < 3) : f i < 4 := by
  obtain ⟨⟨h0, h1, h2⟩, -⟩ := h
  rcases (show i = 0 ∨ i = 1 ∨ i = 2 by omega) with rfl | rfl | rfl <;> assumption
set_option maxRecDepth 100000 in
set_option maxHeartbeats 1000000 in
theorem c_unfold (hl : l.stackTraces = false) {d a p : Nat} {f : Nat → Nat} (hf : isFd S d a f) (hp : p < 8) :
    MT l G S yX2_unfold cX2_unfold 11 (some .int) (rmA 1) [va_rf (some d), .int (nI p)] (fun v S' => v = some (.int (nI (unf f p))) ∧ S' = S) (fun _ => False) := by
  obtain ⟨kd, rd, ka, na, ha, hok⟩ := hf
  refine MT_of (by decide +kernel) hl rfl (Nat.le_of_ble_eq_true rfl) (fun Z hC hzl hnm hT hQ => ?_)
  change J G Z S 0 0 0 [some (va_rf (some d)), some (.int (nI p)), none, none, none, none, none, none, none, none, none] []
  have hzs : (zl Z).stackTraces = false := by rw [hzl]; exact hl
  have loop : ∀ (m k : Nat), k + m = 3 → ∀ (o9 o10 : Option Value), (∀ v, o9 = some v → v.category = 1) → (∀ v, o10 = some v → v.category = 1) → ∀ i : Int32, (k < 3 → i = nI (2 - k)) → (k = 3 → i = -1) →
      J G Z S 0 0 19 [some (va_rf (some d)), some (.int (nI p)), some (.int (nI (uall f p k).1)), some (.int (nI (uall f p k).2.1)), some (.int (nI (uall f p k).2.2.1)), some (.int (nI (uall f p k).2.2.2.1)), some (.int (nI (uall f p k).2.2.2.2.1)), some (.int (nI (uall f p k).2.2.2.2.2)), some (.int i), o9, o10] [] := by
    intro m
    induction m with
    | zero =>
      intro k hk o9 o10 _ _ i _ hi
      have hk : k = 3 := by omega
      subst hk
      have hi := hi rfl
      subst hi
      refine r_iload hC dX2_unfold_19 rfl ?_
      refine r_iflt (tgt := 147) hC dX2_unfold_21 (by decide) (fun h21 => ?_) (fun h21 => ?_)
      · skip
        refine r_iload_n hC dX2_unfold_147 rfl rfl ?_
        refine r_iconst (v := nI 4) hC dX2_unfold_148 (by decide) ?_
        refine r_imul hC dX2_unfold_149 ?_
        refine r_iload_n hC dX2_unfold_150 rfl rfl ?_
        refine r_iadd hC dX2_unfold_151 ?_
        refine r_iret hC hQ rfl dX2_unfold_152 (Nat.le_of_ble_eq_true rfl) (Nat.le_of_ble_eq_true rfl) ?_
        exact ⟨by rw [pk_mul, nI_add]; rfl, rfl⟩
      · exact absurd (by decide) h21
    | succ m ih =>
      intro k hk o9 o10 c9 c10 i hi _
      have hk3 : k < 3 := by omega
      have hi := hi hk3
      subst hi
      obtain ⟨hu, hr2, hc2⟩ := uall_ok f hp k (by omega)
      have h4 : 2 ^ k ≤ 4 := by
        rcases (show k = 0 ∨ k = 1 ∨ k = 2 by omega) with rfl | rfl | rfl <;> decide
      have hus : uall f p (k + 1) = ustep (f (2 - k)) (uall f p k) := rfl
      obtain ⟨r, c, rs, cs, q, hf2⟩ : US := uall f p k
      sorry
  sorry
end FoldA

