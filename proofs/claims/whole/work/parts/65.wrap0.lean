/-! ===== a wrapped call of the class ===== -/
abbrev rmW (k n : Nat) : Room := { frames := 12, cells := k, slots := n, locals := 440 }
def OU (S : PS) (out : Nat) : Prop := KD S out 14 ∧ pN S out = 1
section WrapA
variable {G : GG} {S S1 S' : PS} {tg tg' : TG} {W W' : WT} {A : AS} {t out a md : Nat} {g : Nat → Int64} {V : Nat → Nat} {N : Nat → Int32} {R : Nat → Nat → Int32}
theorem CL.sJ (h : CL G S tg W A t) : CL G (sJ S a g) tg W A t := h
theorem MM.sJ (h : MM S tg md V N R) : MM (sJ S a g) tg md V N R := h
theorem OU.sJ (h : OU S out) : OU (sJ S a g) out := h
theorem OU.frC (h : OU S out) (hf : FrC tg S S' tg') : OU S' out := ⟨hf.1.kd h.1, (hf.1 out h.1.1).2.2.1.trans h.2⟩
theorem OU.frM (h : OU S out) (hf : FrM tg S S') : OU S' out := ⟨hf.kd h.1, (hf out h.1.1).2.2.1.trans h.2⟩
theorem CL.kt (h : CL G S tg W A t) : KD S t 7 := h.1.2.2.2.2.1
/-- what a wrapped call answers, and leaves -/
def EW (G : GG) (S : PS) (tg : TG) (t out : Nat) (r : OP) (v : Option Value) (S' : PS) : Prop :=
  v = some (.int (nI r.1)) ∧ r.1 < 10 ∧ ∃ tg' W' S1, CL G S1 tg' W' r.2.2 t ∧ FrC tg S S1 tg' ∧ (S' = S1 ∨ ∃ g, S' = sJ S1 out g) ∧ (r.1 = 0 → pJ S' out 0 = r.2.1.toInt64)
theorem EW.ok {r : OP} {v : Option Value} {x : Int32} (h : EN G S tg t r v S1) (hx : v = some (.int x)) : EW G S tg t out r (some (.int (nI 0))) (sJ S1 out (vp_updL (pJ S1 out) 0 x.toInt64)) := by
  obtain ⟨e0, e1, tg', W', h1, h2⟩ := h
  refine ⟨by rw [e0], by omega, tg', W', S1, h1, h2, Or.inr ⟨_, rfl⟩, fun _ => ?_⟩
  rw [hx] at e1
  have e2 : x = r.2.1 := by injection e1 with e1; injection e1
  rw [← e2]
  show va_up (pJ S1) out (vp_updL (pJ S1 out) 0 x.toInt64) out 0 = _
  rw [va_up_self]
  exact if_pos rfl
theorem EW.thr {r : OP} {n : Nat} (h : CL G S tg W A t) (e : r = (n + 1, 0, A)) (hn : n < 9 := by decide) : EW G S tg t out r (some (.int (nI (n + 1)))) S := by
  subst e
  exact ⟨rfl, Nat.succ_lt_succ hn, tg, W, S, h, FrC.rf, Or.inl rfl, fun z => absurd z (Nat.succ_ne_zero n)⟩
def EWv (G : GG) (S : PS) (tg : TG) (t : Nat) (r : OP) (v : Option Value) (S' : PS) : Prop := v = some (.int (nI r.1)) ∧ r.1 < 10 ∧ ∃ tg' W', CL G S' tg' W' r.2.2 t ∧ FrC tg S S' tg'
theorem EWv.ok {r : OP} (e0 : r.1 = 0) (h1 : CL G S1 tg' W' r.2.2 t) (h2 : FrC tg S S1 tg') : EWv G S tg t r (some (.int (nI 0))) S1 := ⟨by rw [e0], by omega, tg', W', h1, h2⟩
theorem EWv.thr {r : OP} {n : Nat} (h : CL G S tg W A t) (e : r = (n + 1, 0, A)) (hn : n < 9 := by decide) : EWv G S tg t r (some (.int (nI (n + 1)))) S := by
  subst e
  exact ⟨rfl, Nat.succ_lt_succ hn, tg, W, h, FrC.rf⟩
theorem oIsBound_01 (A : AS) (o c : Int32) : (oIsBound A o c).2.1 = 0 ∨ (oIsBound A o c).2.1 = 1 := by
  unfold oIsBound
  split
  · show (if _ then (0 : Int32) else 1) = 0 ∨ (if _ then (0 : Int32) else 1) = 1
    split
    · exact Or.inl rfl
    · exact Or.inr rfl
  · exact Or.inl rfl
end WrapA

