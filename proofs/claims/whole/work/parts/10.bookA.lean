/-! ===== books: the row of frames ===== -/
abbrev rmA (f : Nat) : Room := { frames := f, cells := 0, slots := 0, locals := 40 * f }
/-- a book's object and its four rows -/
def isBk (S : PS) (b p e c r : Nat) : Prop := KD S b 0 ∧ pR S 0 b = some p ∧ pR S 1 b = some e ∧ pR S 2 b = some c ∧ pR S 3 b = some r ∧ KD S p 10 ∧ pN S p = 8 ∧ KD S e 10 ∧ pN S e = 8 ∧ KD S c 10 ∧ pN S c = 8 ∧ KD S r 10 ∧ pN S r = 43 ∧ p ≠ e ∧ p ≠ c ∧ p ≠ r ∧ e ≠ c ∧ e ≠ r ∧ c ≠ r
section BookA
variable {l : Launch} {G : GG} {S : PS} {b p e c r : Nat}
set_option maxRecDepth 100000 in
theorem c_addFrame (hl : l.stackTraces = false) (hb : isBk S b p e c r) {n : Nat} (hn : pI S 5 b = nI n) (h43 : n < 43) (x : Int32) :
    MT l G S yX0_addFrame cX0_addFrame 2 none (rmA 0) [va_rf (some b), .int x] (fun v S' => v = none ∧ S' = sI (sA S r (upd (pA S r) n x)) 5 b (nI (n + 1))) (fun _ => False) := by
  obtain ⟨kb, rp, re, rc, rr, kp, np, ke, ne, kc, nc, kr, nr, -⟩ := hb
  refine MT_of (by decide +kernel) hl rfl (Nat.le_of_ble_eq_true rfl) (fun Z hC _ hnm hT hQ => ?_)
  change J G Z S 0 0 0 [some (va_rf (some b)), some (.int x)] []
  refine r_aload_n hC dX0_addFrame_0 rfl rfl ?_
  refine r_getI hC fl_X0_28 rfl dX0_addFrame_1 (kb) (hn) ?_
  refine r_bipush (v := nI 43) hC dX0_addFrame_4 (by decide) ?_
  refine r_icge (tgt := 29) hC dX0_addFrame_6 (by decide) (fun h6 => ?_) (fun h6 => ?_)
  · exact absurd ((nI_leI (by omega) (by omega)).mp h6) (by omega)
  · skip
    refine r_aload_n hC dX0_addFrame_9 rfl rfl ?_
    refine r_getR  hC fl_X0_21 dX0_addFrame_10 (kb) (rr) ?_
    refine r_aload_n hC dX0_addFrame_13 rfl rfl ?_
    refine r_getI hC fl_X0_28 rfl dX0_addFrame_14 (kb) (hn) ?_
    refine r_iload_n hC dX0_addFrame_17 rfl rfl ?_
    refine r_iast hC dX0_addFrame_18 (kr) (rfl) (by rw [nr]; exact h43) (by rw [nr]; decide) ?_
    refine r_aload_n hC dX0_addFrame_19 rfl rfl ?_
    refine r_dup hC dX0_addFrame_20 rfl ?_
    refine r_getI hC fl_X0_28 rfl dX0_addFrame_21 (kb) (hn) ?_
    refine r_iconst (v := nI 1) hC dX0_addFrame_24 (by decide) ?_
    refine r_iadd hC dX0_addFrame_25 ?_
    refine r_putI hC fl_X0_28 rfl (by decide) dX0_addFrame_26 (kb) (fun h => absurd h (by decide)) ?_
    refine r_vret hC hQ rfl dX0_addFrame_29 (Nat.le_of_ble_eq_true rfl) (Nat.le_of_ble_eq_true rfl) ?_
    exact ⟨rfl, by rw [nI_add]⟩
set_option maxRecDepth 100000 in
theorem c_positionOf (hl : l.stackTraces = false) (hb : isBk S b p e c r) {n : Nat} (hn : pI S 5 b = nI n) (h43 : n ≤ 43) (f : Int32) :
    MT l G S yX0_positionOf cX0_positionOf 2 (some .int) (rmA 0) [va_rf (some b), .int f] (fun v S' => S' = S ∧ v = some (.int (if f.toInt < 0 ∨ (n : Int) ≤ f.toInt then -1 else pA S r f.toInt.toNat))) (fun _ => False) := by
  obtain ⟨kb, rp, re, rc, rr, kp, np, ke, ne, kc, nc, kr, nr, -⟩ := hb
  refine MT_of (by decide +kernel) hl rfl (Nat.le_of_ble_eq_true rfl) (fun Z hC _ hnm hT hQ => ?_)
  change J G Z S 0 0 0 [some (va_rf (some b)), some (.int f)] []
  have out : (f.toInt < 0 ∨ (n : Int) ≤ f.toInt) → J G Z S 0 0 12 [some (va_rf (some b)), some (.int f)] [] := by
    intro h
    refine r_iconst (v := (-1)) hC dX0_positionOf_12 (by decide) ?_
    refine r_goto (tgt := 22) hC dX0_positionOf_13 (by decide) ?_
    refine r_iret hC hQ rfl dX0_positionOf_22 (Nat.le_of_ble_eq_true rfl) (Nat.le_of_ble_eq_true rfl) ?_
    exact ⟨rfl, by rw [if_pos h]⟩
  refine r_iload_n hC dX0_positionOf_0 rfl rfl ?_
  refine r_iflt (tgt := 12) hC dX0_positionOf_1 (by decide) (fun h1 => ?_) (fun h1 => ?_)
  · refine out (Or.inl ?_)
    have := Int32.lt_iff_toInt_lt.mp h1
    simpa using this
  · skip
    refine r_iload_n hC dX0_positionOf_4 rfl rfl ?_
    refine r_aload_n hC dX0_positionOf_5 rfl rfl ?_
    refine r_getI hC fl_X0_28 rfl dX0_positionOf_6 (kb) (hn) ?_
    refine r_iclt (tgt := 16) hC dX0_positionOf_9 (by decide) (fun h9 => ?_) (fun h9 => ?_)
    · obtain ⟨j, hj, rfl⟩ := nI_of h1
      have hjn : j < n := (nI_ltI (by omega) (by omega)).mp h9
      refine r_aload_n hC dX0_positionOf_16 rfl rfl ?_
      refine r_getR  hC fl_X0_21 dX0_positionOf_17 (kb) (rr) ?_
      refine r_iload_n hC dX0_positionOf_20 rfl rfl ?_
      refine r_iald hC dX0_positionOf_21 (kr) (rfl) (by rw [nr]; omega) (by rw [nr]; decide) (rfl) ?_
      refine r_iret hC hQ rfl dX0_positionOf_22 (Nat.le_of_ble_eq_true rfl) (Nat.le_of_ble_eq_true rfl) ?_
      refine ⟨rfl, ?_⟩
      rw [nI_toInt hj, if_neg (by omega), Int.toNat_natCast]
    · refine out (Or.inr ?_)
      obtain ⟨j, hj, rfl⟩ := nI_of h1
      rw [nI_toInt hj]
      have hjn : ¬ j < n := fun z => h9 ((nI_ltI (by omega) (by omega)).mpr z)
      omega
end BookA

