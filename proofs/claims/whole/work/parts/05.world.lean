/-! ===== words that only the tables decide and no warming undoes; the one list of words of every method ===== -/
def gw (w : Cond) : Bool := match w with
  | .arrayClass _ => true
  | w => w.onTables && (w.keepsFace || w.keepsH)
theorem gw_at {args a' : Array Value} {s U : State} (hW : s.WarmedH U.vm) {w : Cond} (hg : gw w = true) (h : w.before args s = true) : w.before a' U = true := by
  by_cases ha : ∃ ty, w = .arrayClass ty
  · exact word_at hW (Or.inr ha) h
  · have hg2 : (w.onTables && (w.keepsFace || w.keepsH)) = true := by
      cases w <;> first | exact hg | exact absurd ⟨_, rfl⟩ ha
    simp only [Bool.and_eq_true, Bool.or_eq_true] at hg2
    rcases hg2.2 with hk | hk
    · exact va_tabs hg2.1 (rfl : (s.setVm U.vm).vm = U.vm) (Cond.before_shiftedFace (State.Shifted.of_warmed hW) w hk h)
    · have h1 := Cond.onTables_warmH (T := U) (args' := a') hW hg2.1 hk h
      rwa [State.setVm_self] at h1
def TBL : List Cond := lw_tbl.filter gw
theorem q_of (i : Nat) {w : Cond} (h : lw_tbl[i]? = some w) (g : gw w = true) : w ∈ TBL := List.mem_filter.mpr ⟨List.mem_of_getElem? h, g⟩
theorem TBL_good : ∀ w ∈ TBL, gw w = true := fun w h => (List.mem_filter.mp h).2
theorem TBL_in : ∀ w ∈ TBL, w ∈ lw_tbl := fun w h => (List.mem_filter.mp h).1
/-- the words of a method: its own code, and all the good ones -/
def wsm (y : MethodName) (cc : ByteArray) (nL : Nat) (ret : Option FieldType) : List Cond := Cond.code y cc nL ret :: TBL
def wsw (y : MethodName) (cc : ByteArray) (nL : Nat) (ret : Option FieldType) (hh : List (Nat × Nat × Nat × Nat)) : List Cond := Cond.codeWith y cc nL ret hh :: TBL
theorem wsm_pay {y : MethodName} {cc : ByteArray} {nL : Nat} {ret : Option FieldType} {args : Array Value} {s : State} (hts : ∀ w ∈ TBL, w.before args s = true) (hc : Cond.code y cc nL ret ∈ TBL) :
    ∀ w ∈ wsm y cc nL ret, ∀ (a' : Array Value) (U : State), s.WarmedH U.vm → w.before a' U = true := by
  intro w hw a' U hU
  rcases List.mem_cons.mp hw with h | h
  · rw [h]; exact gw_at hU (TBL_good _ hc) (hts _ hc)
  · exact gw_at hU (TBL_good _ h) (hts _ h)
theorem wsw_pay {y : MethodName} {cc : ByteArray} {nL : Nat} {ret : Option FieldType} {hh : List (Nat × Nat × Nat × Nat)} {args : Array Value} {s : State} (hts : ∀ w ∈ TBL, w.before args s = true) (hc : Cond.codeWith y cc nL ret hh ∈ TBL) :
    ∀ w ∈ wsw y cc nL ret hh, ∀ (a' : Array Value) (U : State), s.WarmedH U.vm → w.before a' U = true := by
  intro w hw a' U hU
  rcases List.mem_cons.mp hw with h | h
  · rw [h]; exact gw_at hU (TBL_good _ hc) (hts _ hc)
  · exact gw_at hU (TBL_good _ h) (hts _ h)
/-! ===== the classes by their kinds ===== -/
def cls : List vw_C := [(RX0, TX0, 6), (RX1, TX1, 3), (RX2, TX2, 1), (RX3, TX3, 6), (RX4, TX4, 3), (RX5, TX5, 6), (RX6, TX6, 4), (RX7, TX7, 9), (RX8, TX8, 24), (RJx4a65c, TJx4a65c, 3)]
/-- which fields of a kind are references -/
def flds : Nat → List Bool := fun k => match k with
  | 0 => [true, true, true, true, false, false]
  | 1 => [true, false, false]
  | 2 => [true]
  | 3 => [false, false, false, false, true, false]
  | 4 => [false, true, true]
  | 5 => [true, true, false, false, false, false]
  | 6 => [true, true, false, false]
  | 7 => [true, true, true, true, true, true, true, false, false]
  | 8 => [false, true, true, true, true, false, true, true, true, true, true, true, true, true, false, true, true, true, false, false, true, true, false, false]
  | 9 => [false, true, false]
  | _ => []
/-! ===== the pool: addresses, kinds, number fields, reference fields, lengths, rows of numbers, rows of references, rows of longs ===== -/
abbrev PS : Type := List Nat × (Nat → Nat) × (Nat → Nat → Int32) × (Nat → Nat → Option Nat) × (Nat → Nat) × (Nat → Nat → Int32) × (Nat → Nat → Option Nat) × (Nat → Nat → Int64)
abbrev pL (S : PS) : List Nat := S.1
abbrev pK (S : PS) : Nat → Nat := S.2.1
abbrev pI (S : PS) : Nat → Nat → Int32 := S.2.2.1
abbrev pR (S : PS) : Nat → Nat → Option Nat := S.2.2.2.1
abbrev pN (S : PS) : Nat → Nat := S.2.2.2.2.1
abbrev pA (S : PS) : Nat → Nat → Int32 := S.2.2.2.2.2.1
abbrev pB (S : PS) : Nat → Nat → Option Nat := S.2.2.2.2.2.2.1
abbrev pJ (S : PS) : Nat → Nat → Int64 := S.2.2.2.2.2.2.2
def u2 {α : Type} (f : Nat → Nat → α) (k a : Nat) (v : α) : Nat → Nat → α := fun k' a' => if k' = k then (if a' = a then v else f k' a') else f k' a'
theorem u2_s {α : Type} (f : Nat → Nat → α) (k a : Nat) (v : α) : u2 f k a v k a = v := by simp [u2]
theorem u2_f {α : Type} (f : Nat → Nat → α) {k k' : Nat} (a : Nat) (v : α) (a' : Nat) (h : k' ≠ k) : u2 f k a v k' a' = f k' a' := by simp [u2, h]
theorem u2_a {α : Type} (f : Nat → Nat → α) (k : Nat) {a a' : Nat} (v : α) (k' : Nat) (h : a' ≠ a) : u2 f k a v k' a' = f k' a' := by simp [u2, h]
def sI (S : PS) (f a : Nat) (v : Int32) : PS := (S.1, S.2.1, u2 S.2.2.1 f a v, S.2.2.2)
def sR (S : PS) (f a : Nat) (v : Option Nat) : PS := (S.1, S.2.1, S.2.2.1, u2 S.2.2.2.1 f a v, S.2.2.2.2)
def sA (S : PS) (a : Nat) (g : Nat → Int32) : PS := (S.1, S.2.1, S.2.2.1, S.2.2.2.1, S.2.2.2.2.1, va_up S.2.2.2.2.2.1 a g, S.2.2.2.2.2.2)
def sB (S : PS) (a : Nat) (g : Nat → Option Nat) : PS := (S.1, S.2.1, S.2.2.1, S.2.2.2.1, S.2.2.2.2.1, S.2.2.2.2.2.1, va_up S.2.2.2.2.2.2.1 a g, S.2.2.2.2.2.2.2)
def sJ (S : PS) (a : Nat) (g : Nat → Int64) : PS := (S.1, S.2.1, S.2.2.1, S.2.2.2.1, S.2.2.2.2.1, S.2.2.2.2.2.1, S.2.2.2.2.2.2.1, va_up S.2.2.2.2.2.2.2 a g)
/-- a new object: its fields are 0 and null -/
def sO (S : PS) (a kd : Nat) : PS := (S.1 ++ [a], va_up S.2.1 a kd, fun f x => if x = a then 0 else S.2.2.1 f x, fun f x => if x = a then none else S.2.2.2.1 f x, S.2.2.2.2)
/-- a new row -/
def sW (S : PS) (a kd n : Nat) : PS := (S.1 ++ [a], va_up S.2.1 a kd, S.2.2.1, S.2.2.2.1, va_up S.2.2.2.2.1 a n, va_up S.2.2.2.2.2.1 a (fun _ => 0), va_up S.2.2.2.2.2.2.1 a (fun _ => none), va_up S.2.2.2.2.2.2.2 a (fun _ => 0))
/-! ===== what is fixed over a whole run: base, classes of rows, tables, ArrayList's empty row, the texts ===== -/
abbrev GG : Type := Nat × (Nat → ClassId) × va_G × Nat × (Nat → Nat)
def gA (G : GG) : Nat → Prop := fun q => G.1 ≤ q
abbrev gC (G : GG) : Nat → ClassId := G.2.1
abbrev gD (G : GG) : va_G := G.2.2.1
abbrev gE (G : GG) : Nat := G.2.2.2.1
abbrev gS (G : GG) : Nat → Nat := G.2.2.2.2
def PFf (S : PS) (kd a : Nat) : List Bool → Nat → List Value
  | [], _ => []
  | b :: bs, j => (if b then va_rf (pR S (32 * kd + j) a) else .int (pI S (32 * kd + j) a)) :: PFf S kd a bs (j + 1)
def PF (G : GG) (S : PS) (a : Nat) : va_E :=
  if pK S a < 10 then .inr (pK S a, PFf S (pK S a) a (flds (pK S a)) 0)
  else if pK S a < 12 then .inl (gC G (pK S a), pN S a, .inl (pA S a))
  else if pK S a < 14 then .inl (gC G (pK S a), pN S a, .inr (.inr (.inr (.inr (pB S a)))))
  else .inl (gC G 14, pN S a, .inr (.inl (pJ S a)))
def HW (G : GG) (S : PS) (H : Heap) : Prop := va_P (gD G) cls (va_pl (pL S) (PF G S)) H ∧ va_D (gA G) (va_pl (pL S) (PF G S))
theorem PFf_get (S : PS) (kd a : Nat) : ∀ (bs : List Bool) (j0 j : Nat) (b : Bool), bs[j]? = some b → (PFf S kd a bs j0)[j]? = some (if b then va_rf (pR S (32 * kd + (j0 + j)) a) else .int (pI S (32 * kd + (j0 + j)) a)) := by
  intro bs
  induction bs with
  | nil => intro j0 j b h; simp at h
  | cons c bs ih =>
    intro j0 j b h
    cases j with
    | zero =>
      simp only [List.getElem?_cons_zero, Option.some.injEq] at h
      subst h
      simp [PFf]
    | succ j =>
      simp only [List.getElem?_cons_succ] at h
      have := ih (j0 + 1) j b h
      rw [show j0 + 1 + j = j0 + (j + 1) by omega] at this
      simpa [PFf] using this
theorem PFf_len (S : PS) (kd a : Nat) : ∀ (bs : List Bool) (j0 : Nat), (PFf S kd a bs j0).length = bs.length := by
  intro bs
  induction bs with
  | nil => intro j0; rfl
  | cons c bs ih => intro j0; simp [PFf, ih]
theorem PFf_cong (S S' : PS) (kd a : Nat) (bs : List Bool) (j0 : Nat) (h : ∀ (j : Nat) (b : Bool), bs[j]? = some b → (if b then va_rf (pR S (32 * kd + (j0 + j)) a) else Value.int (pI S (32 * kd + (j0 + j)) a)) = (if b then va_rf (pR S' (32 * kd + (j0 + j)) a) else Value.int (pI S' (32 * kd + (j0 + j)) a))) : PFf S kd a bs j0 = PFf S' kd a bs j0 := by
  apply List.ext_getElem?
  intro j
  cases hb : bs[j]? with
  | none =>
    have h1 : bs.length ≤ j := List.getElem?_eq_none_iff.mp hb
    rw [List.getElem?_eq_none_iff.mpr (by rw [PFf_len]; exact h1), List.getElem?_eq_none_iff.mpr (by rw [PFf_len]; exact h1)]
  | some b => rw [PFf_get S kd a bs j0 j b hb, PFf_get S' kd a bs j0 j b hb, h j b hb]
theorem PFf_setI (S : PS) (kd a : Nat) (bs : List Bool) (j : Nat) (v : Int32) (hj : bs[j]? = some false) : (PFf S kd a bs 0).set j (.int v) = PFf (sI S (32 * kd + j) a v) kd a bs 0 := by
  apply List.ext_getElem?
  intro i
  cases hb : bs[i]? with
  | none =>
    have h1 : bs.length ≤ i := List.getElem?_eq_none_iff.mp hb
    rw [List.getElem?_eq_none_iff.mpr (by rw [List.length_set, PFf_len]; exact h1), List.getElem?_eq_none_iff.mpr (by rw [PFf_len]; exact h1)]
  | some b =>
    rw [PFf_get (sI S (32 * kd + j) a v) kd a bs 0 i b hb]
    by_cases hij : i = j
    · subst hij
      rw [hj] at hb
      cases hb
      have hl : i < (PFf S kd a bs 0).length := by rw [PFf_len]; exact (List.getElem?_eq_some_iff.mp hj).1
      rw [List.getElem?_set_self hl]
      simp [sI, u2, pI]
    · rw [List.getElem?_set_ne (fun e => hij e.symm), PFf_get S kd a bs 0 i b hb]
      simp [sI, u2, hij, pI, pR]
theorem PFf_setR (S : PS) (kd a : Nat) (bs : List Bool) (j : Nat) (v : Option Nat) (hj : bs[j]? = some true) : (PFf S kd a bs 0).set j (va_rf v) = PFf (sR S (32 * kd + j) a v) kd a bs 0 := by
  apply List.ext_getElem?
  intro i
  cases hb : bs[i]? with
  | none =>
    have h1 : bs.length ≤ i := List.getElem?_eq_none_iff.mp hb
    rw [List.getElem?_eq_none_iff.mpr (by rw [List.length_set, PFf_len]; exact h1), List.getElem?_eq_none_iff.mpr (by rw [PFf_len]; exact h1)]
  | some b =>
    rw [PFf_get (sR S (32 * kd + j) a v) kd a bs 0 i b hb]
    by_cases hij : i = j
    · subst hij
      rw [hj] at hb
      cases hb
      have hl : i < (PFf S kd a bs 0).length := by rw [PFf_len]; exact (List.getElem?_eq_some_iff.mp hj).1
      rw [List.getElem?_set_self hl]
      simp [sR, u2, pR]
    · rw [List.getElem?_set_ne (fun e => hij e.symm), PFf_get S kd a bs 0 i b hb]
      simp [sR, u2, hij, pI, pR]
theorem PF_obj {G : GG} {S : PS} {a kd : Nat} (hk : pK S a = kd) (h10 : kd < 10) : PF G S a = .inr (kd, PFf S kd a (flds kd) 0) := by
  subst hk
  simp only [PF, if_pos h10]
theorem PF_num {G : GG} {S : PS} {a kd : Nat} (hk : pK S a = kd) (h1 : 10 ≤ kd) (h2 : kd < 12) : PF G S a = .inl (gC G kd, pN S a, .inl (pA S a)) := by
  subst hk
  simp only [PF, if_neg (Nat.not_lt.mpr h1), if_pos h2]
theorem PF_ref {G : GG} {S : PS} {a kd : Nat} (hk : pK S a = kd) (h1 : 12 ≤ kd) (h2 : kd < 14) : PF G S a = .inl (gC G kd, pN S a, .inr (.inr (.inr (.inr (pB S a))))) := by
  subst hk
  simp only [PF, if_neg (show ¬ pK S a < 10 by omega), if_neg (show ¬ pK S a < 12 by omega), if_pos h2]
theorem PF_lng {G : GG} {S : PS} {a : Nat} (hk : pK S a = 14) : PF G S a = .inl (gC G 14, pN S a, .inr (.inl (pJ S a))) := by
  simp only [PF, hk, if_neg (show ¬ (14 : Nat) < 10 by omega), if_neg (show ¬ (14 : Nat) < 12 by omega), if_neg (show ¬ (14 : Nat) < 14 by omega)]
theorem PF_upI {G : GG} {S : PS} {a kd j : Nat} {v : Int32} (hk : pK S a = kd) (h10 : kd < 10) (hj : (flds kd)[j]? = some false) (x : Nat) : va_up (PF G S) a (.inr (kd, (PFf S kd a (flds kd) 0).set j (.int v))) x = PF G (sI S (32 * kd + j) a v) x := by
  by_cases hx : x = a
  · subst hx
    rw [va_up_self, PFf_setI S kd x _ j v hj, PF_obj (S := sI S (32 * kd + j) x v) hk h10]
  · rw [va_up_ne _ _ hx]
    have e : ∀ k bs, PFf (sI S (32 * kd + j) a v) k x bs 0 = PFf S k x bs 0 := fun k bs => PFf_cong _ _ k x bs 0 (fun i b _ => by simp [sI, u2, hx, pI, pR])
    simp only [PF]
    show _ = if pK S x < 10 then _ else _
    rw [show pK (sI S (32 * kd + j) a v) x = pK S x from rfl, e]
    rfl
theorem PF_upR {G : GG} {S : PS} {a kd j : Nat} {v : Option Nat} (hk : pK S a = kd) (h10 : kd < 10) (hj : (flds kd)[j]? = some true) (x : Nat) : va_up (PF G S) a (.inr (kd, (PFf S kd a (flds kd) 0).set j (va_rf v))) x = PF G (sR S (32 * kd + j) a v) x := by
  by_cases hx : x = a
  · subst hx
    rw [va_up_self, PFf_setR S kd x _ j v hj, PF_obj (S := sR S (32 * kd + j) x v) hk h10]
  · rw [va_up_ne _ _ hx]
    have e : ∀ k bs, PFf (sR S (32 * kd + j) a v) k x bs 0 = PFf S k x bs 0 := fun k bs => PFf_cong _ _ k x bs 0 (fun i b _ => by simp [sR, u2, hx, pI, pR])
    simp only [PF]
    show _ = if pK S x < 10 then _ else _
    rw [show pK (sR S (32 * kd + j) a v) x = pK S x from rfl, e]
    rfl
theorem PF_upA {G : GG} {S : PS} {a kd : Nat} {g : Nat → Int32} (hk : pK S a = kd) (h1 : 10 ≤ kd) (h2 : kd < 12) (x : Nat) : va_up (PF G S) a (.inl (gC G kd, pN S a, .inl g)) x = PF G (sA S a g) x := by
  by_cases hx : x = a
  · subst hx
    rw [va_up_self, PF_num (S := sA S x g) hk h1 h2]
    show _ = Sum.inl (gC G kd, pN S x, Sum.inl (va_up (pA S) x g x))
    rw [va_up_self]
  · rw [va_up_ne _ _ hx]
    have e : pA (sA S a g) x = pA S x := va_up_ne _ _ hx
    have e2 : ∀ k bs, PFf (sA S a g) k x bs 0 = PFf S k x bs 0 := fun k bs => PFf_cong _ _ k x bs 0 (fun i b _ => rfl)
    simp only [PF]
    rw [e, e2]
    rfl
theorem PF_upB {G : GG} {S : PS} {a kd : Nat} {g : Nat → Option Nat} (hk : pK S a = kd) (h1 : 12 ≤ kd) (h2 : kd < 14) (x : Nat) : va_up (PF G S) a (.inl (gC G kd, pN S a, .inr (.inr (.inr (.inr g))))) x = PF G (sB S a g) x := by
  by_cases hx : x = a
  · subst hx
    rw [va_up_self, PF_ref (S := sB S x g) hk h1 h2]
    show _ = Sum.inl (gC G kd, pN S x, Sum.inr (Sum.inr (Sum.inr (Sum.inr (va_up (pB S) x g x)))))
    rw [va_up_self]
  · rw [va_up_ne _ _ hx]
    have e : pB (sB S a g) x = pB S x := va_up_ne _ _ hx
    have e2 : ∀ k bs, PFf (sB S a g) k x bs 0 = PFf S k x bs 0 := fun k bs => PFf_cong _ _ k x bs 0 (fun i b _ => rfl)
    simp only [PF]
    rw [e, e2]
    rfl
theorem PF_upJ {G : GG} {S : PS} {a : Nat} {g : Nat → Int64} (hk : pK S a = 14) (x : Nat) : va_up (PF G S) a (.inl (gC G 14, pN S a, .inr (.inl g))) x = PF G (sJ S a g) x := by
  by_cases hx : x = a
  · subst hx
    rw [va_up_self, PF_lng (S := sJ S x g) hk]
    show _ = Sum.inl (gC G 14, pN S x, Sum.inr (Sum.inl (va_up (pJ S) x g x)))
    rw [va_up_self]
  · rw [va_up_ne _ _ hx]
    have e : pJ (sJ S a g) x = pJ S x := va_up_ne _ _ hx
    have e2 : ∀ k bs, PFf (sJ S a g) k x bs 0 = PFf S k x bs 0 := fun k bs => PFf_cong _ _ k x bs 0 (fun i b _ => rfl)
    simp only [PF]
    rw [e, e2]
    rfl
theorem va_pl_in {L : List Nat} {f : Nat → va_E} {a : Nat} (h : a ∈ L) : ∃ k : Nat, (va_pl L f)[k]? = some (a, f a) := by
  obtain ⟨k, hk⟩ := va_pl_get (X := []) (f := f) h
  exact ⟨k, hk⟩
theorem va_pl_put {A : Nat → Prop} {L : List Nat} {f : Nat → va_E} {a k : Nat} {e : va_E} (hD : va_D A (va_pl L f)) (h : a ∈ L) (hk : (va_pl L f)[k]? = some (a, f a)) : (va_pl L f).set k (a, e) = va_pl L (va_up f a e) :=
  va_pl_set (X := []) hD h hk
theorem nin_of_D {A : Nat → Prop} {L : List Nat} {f : Nat → va_E} {q : Nat} {e : va_E} (hD : va_D A (va_pl L f ++ [(q, e)])) : q ∉ L := by
  intro h
  obtain ⟨k, hk⟩ := va_pl_in (f := f) h
  have hl : k < (va_pl L f).length := (List.getElem?_eq_some_iff.mp hk).1
  have h1 : (va_pl L f ++ [(q, e)])[k]? = some (q, f q) := by rw [List.getElem?_append_left hl]; exact hk
  have h2 : (va_pl L f ++ [(q, e)])[(va_pl L f).length]? = some (q, e) := by simp
  have := hD.1 k (va_pl L f).length _ _ h1 h2 rfl
  omega
def dflt (kd : Nat) : List Value := (flds kd).map (fun b => if b then .null else .int 0)
theorem PF_newO {G : GG} {S : PS} {q kd : Nat} (hq : q ∉ pL S) (h10 : kd < 10) : va_pl (pL S) (PF G S) ++ [(q, .inr (kd, dflt kd))] = va_pl (pL (sO S q kd)) (PF G (sO S q kd)) := by
  rw [va_pl_push hq]
  refine va_pl_congr (fun x => ?_)
  by_cases hx : x = q
  · subst hx
    rw [va_up_self, PF_obj (S := sO S x kd) (kd := kd) (va_up_self _ _ _) h10]
    congr 2
    apply List.ext_getElem?
    intro i
    cases hb : (flds kd)[i]? with
    | none =>
      have h1 : (flds kd).length ≤ i := List.getElem?_eq_none_iff.mp hb
      rw [show (dflt kd)[i]? = none from List.getElem?_eq_none_iff.mpr (by unfold dflt; rw [List.length_map]; exact h1)]
      exact (List.getElem?_eq_none_iff.mpr (by rw [PFf_len]; exact h1)).symm
    | some b =>
      rw [PFf_get _ kd x _ 0 i b hb]
      simp only [dflt, List.getElem?_map, hb, Option.map_some]
      cases b <;> simp [sO, va_rf, pI, pR]
  · rw [va_up_ne _ _ hx]
    have e2 : ∀ k bs, PFf (sO S q kd) k x bs 0 = PFf S k x bs 0 := fun k bs => PFf_cong _ _ k x bs 0 (fun i b _ => by simp [sO, hx, pI, pR])
    have e : pK (sO S q kd) x = pK S x := va_up_ne _ _ hx
    simp only [PF]
    rw [e, e2]
    rfl
theorem PF_newW {G : GG} {S : PS} {q kd n : Nat} {a0 : vp_A} (hq : q ∉ pL S) (ha : PF G (sW S q kd n) q = .inl (gC G kd, a0)) : va_pl (pL S) (PF G S) ++ [(q, .inl (gC G kd, a0))] = va_pl (pL (sW S q kd n)) (PF G (sW S q kd n)) := by
  rw [va_pl_push hq]
  refine va_pl_congr (fun x => ?_)
  by_cases hx : x = q
  · subst hx
    rw [va_up_self, ha]
  · rw [va_up_ne _ _ hx]
    have e2 : ∀ k bs, PFf (sW S q kd n) k x bs 0 = PFf S k x bs 0 := fun k bs => PFf_cong _ _ k x bs 0 (fun i b _ => rfl)
    have e : pK (sW S q kd n) x = pK S x := va_up_ne _ _ hx
    have eN : pN (sW S q kd n) x = pN S x := va_up_ne _ _ hx
    have eA : pA (sW S q kd n) x = pA S x := va_up_ne _ _ hx
    have eB : pB (sW S q kd n) x = pB S x := va_up_ne _ _ hx
    have eJ : pJ (sW S q kd n) x = pJ S x := va_up_ne _ _ hx
    simp only [PF]
    rw [e, e2, eN, eA, eB, eJ]
theorem PF_newN {G : GG} {S : PS} {q kd n : Nat} (h1 : 10 ≤ kd) (h2 : kd < 12) : PF G (sW S q kd n) q = .inl (gC G kd, (n, .inl (fun _ => 0))) := by
  rw [PF_num (S := sW S q kd n) (kd := kd) (va_up_self _ _ _) h1 h2]
  simp [sW, va_up_self, pA, pB, pJ, pN]
theorem PF_newQ {G : GG} {S : PS} {q kd n : Nat} (h1 : 12 ≤ kd) (h2 : kd < 14) : PF G (sW S q kd n) q = .inl (gC G kd, (n, .inr (.inr (.inr (.inr (fun _ => none)))))) := by
  rw [PF_ref (S := sW S q kd n) (kd := kd) (va_up_self _ _ _) h1 h2]
  simp [sW, va_up_self, pA, pB, pJ, pN]
theorem PF_newJ {G : GG} {S : PS} {q n : Nat} : PF G (sW S q 14 n) q = .inl (gC G 14, (n, .inr (.inl (fun _ => 0)))) := by
  rw [PF_lng (S := sW S q 14 n) (va_up_self _ _ _)]
  simp [sW, va_up_self, pA, pB, pJ, pN]
/-! ===== what is known of the tables and of the heap below the base ===== -/
def tysG (G : GG) : List (ClassId × FieldType) := [(gC G 10, .int), (gC G 11, .boolean), (gC G 12, .object "Thumbreel$Leaf"), (gC G 13, .object "java/lang/Object"), (gC G 14, .long)]
def strs : List (String × Nat × String) := [("Thumbreel", 58, "there are 4 books"), ("Thumbreel", 259, "there is no such thing"), ("Thumbreel", 79, "no such place for a drawing"), ("Thumbreel", 261, "an argument is out of its range"), ("Thumbreel", 85, "the book has 8 drawings"), ("Thumbreel", 113, "there are 5 orders"), ("Thumbreel", 143, "two folds are LEFT or RIGHT, one is UP or DOWN"), ("Thumbreel", 165, "there would be more than 50 sheets"), ("Thumbreel", 182, "no such sheet"), ("Thumbreel", 197, "no sheet waits"), ("Thumbreel", 223, "it is bound, or a leaf is not printed and cut")]
/-- exceptions of one class that are none of another's -/
def ncs : List (String × String) := [("java/lang/IllegalArgumentException", "java/lang/IndexOutOfBoundsException"), ("java/lang/IllegalStateException", "java/lang/IndexOutOfBoundsException"), ("java/lang/IllegalStateException", "java/lang/IllegalArgumentException"), ("java/util/NoSuchElementException", "java/lang/IndexOutOfBoundsException")]
def KS (G : GG) (U : State) (H : Heap) : Prop :=
  va_K (gD G) cls (tysG G) U ∧ vx_Zq Bundle.tN "UNASSIGNED_STACK" Bundle.steD (gA G) U H ∧ vx_Zq Bundle.tN "SUPPRESSED_SENTINEL" Bundle.listD (gA G) U H ∧
  va_Z "java/util/ArrayList" "DEFAULTCAPACITY_EMPTY_ELEMENTDATA" "[Ljava/lang/Object;" (.ref (gE G)) (gA G) U H ∧ va_T (.object "java/lang/Object") (gE G) 0 (fun _ => .null) (gA G) U H ∧
  (∀ (i : Nat) (q : String × Nat × String), strs[i]? = some q → vk_R q.1 q.2.1 q.2.2 (gS G i) U) ∧ va_AO "java/lang/Object" U ∧ va_AO "Thumbreel$Leaf" U ∧ (∀ q ∈ ncs, va_Nc q.1 q.2 U) ∧ va_Mi "[Ljava/lang/Object;" (gS G 99) U ∧ G.1 ≤ H.size
theorem KS.move {G : GG} {u U : State} {H H1 : Heap} (hW : u.WarmedH U.vm) (h : KS G u H) (hq : ∀ a : Nat, a < H.size → ¬ gA G a → H1[a]? = H[a]?) (hs : H.size ≤ H1.size) : KS G U H1 := by
  obtain ⟨h1, h2, h3, h4, h5, h6, h7, h8, h8b, h8c, h9⟩ := h
  have ha := hW.alike
  exact ⟨va_K.moved ha h1, (vx_Zq.moved ha h2).kept hq, (vx_Zq.moved ha h3).kept hq, (va_Z.moved ha h4).kept hq, (va_T.moved ha h5).kept hq, fun i q hi => vk_R.warm hW (h6 i q hi), va_AO.moved ha h7, va_AO.moved ha h8, fun q hq9 => va_Nc.moved ha (h8b q hq9), va_Mi.moved ha h8c, Nat.le_trans h9 hs⟩
theorem KS.same {G : GG} {u U : State} {H : Heap} (hv : U.vm = u.vm) (h : KS G u H) : KS G U H :=
  KS.move (by rw [hv]; exact State.WarmedH.refl u) h (fun _ _ _ => rfl) (Nat.le_refl _)
/-! ===== locals by their places ===== -/
def asc : List (Option Value) → Nat → List (Nat × Value)
  | [], _ => []
  | none :: L, i => asc L (i + 1)
  | some v :: L, i => (i, v) :: asc L (i + 1)
theorem mem_asc : ∀ (L : List (Option Value)) (j0 i : Nat) (v : Value), (i, v) ∈ asc L j0 ↔ ∃ k, i = j0 + k ∧ L[k]? = some (some v) := by
  intro L
  induction L with
  | nil => intro j0 i v; simp [asc]
  | cons o L ih =>
    intro j0 i v
    cases o with
    | none =>
      simp only [asc, ih]
      constructor
      · rintro ⟨k, h1, h2⟩
        exact ⟨k + 1, by omega, by simpa using h2⟩
      · rintro ⟨k, h1, h2⟩
        cases k with
        | zero => simp at h2
        | succ k => exact ⟨k, by omega, by simpa using h2⟩
    | some w =>
      simp only [asc, List.mem_cons, ih, Prod.mk.injEq]
      constructor
      · rintro (⟨h1, h2⟩ | ⟨k, h1, h2⟩)
        · exact ⟨0, by omega, by simp [h2]⟩
        · exact ⟨k + 1, by omega, by simpa using h2⟩
      · rintro ⟨k, h1, h2⟩
        cases k with
        | zero =>
          simp at h2
          exact Or.inl ⟨by omega, h2.symm⟩
        | succ k => exact Or.inr ⟨k, by omega, by simpa using h2⟩
def LH (ls : Array Slot) (nL : Nat) (L : List (Option Value)) : Prop := lv_has ls nL (asc L 0) ∧ (∀ v : Value, some v ∈ L → v.category = 1) ∧ L.length = nL
theorem LH_get {ls : Array Slot} {nL i : Nat} {v : Value} {L : List (Option Value)} (h : LH ls nL L) (hl : L[i]? = some (some v)) : ls[i]? = some (.val v) :=
  h.1.2.2 (i, v) ((mem_asc L 0 i v).mpr ⟨i, by omega, hl⟩)
theorem LH_set {ls ls0 : Array Slot} {nL i : Nat} {v : Value} {L : List (Option Value)} (h : LH ls0 nL L) (hc : v.category = 1)
    (h2 : lv_has ls nL ((i, v) :: (asc L 0).filter (fun q => !(q.1 == i) && !(q.1 + 1 == i && q.2.category == 2)))) : LH ls nL (L.set i (some v)) := by
  refine ⟨⟨h2.1, h2.2.1, fun q hq => ?_⟩, fun w hw => ?_, by rw [List.length_set]; exact h.2.2⟩
  · obtain ⟨j, w⟩ := q
    obtain ⟨k, e, hk⟩ := (mem_asc _ 0 j w).mp hq
    have ej : j = k := by omega
    subst ej
    refine h2.2.2 (j, w) ?_
    by_cases hji : j = i
    · subst hji
      have hl : j < L.length := by
        have := (List.getElem?_eq_some_iff.mp hk).1
        rwa [List.length_set] at this
      rw [List.getElem?_set_self hl] at hk
      cases hk
      exact List.mem_cons_self
    · rw [List.getElem?_set_ne (fun e => hji e.symm)] at hk
      have hcat := h.2.1 w (List.mem_of_getElem? hk)
      refine List.mem_cons_of_mem _ (List.mem_filter.mpr ⟨(mem_asc L 0 j w).mpr ⟨j, by omega, hk⟩, ?_⟩)
      simp [hji, hcat]
  · rcases List.mem_or_eq_of_mem_set hw with h3 | h3
    · exact h.2.1 w h3
    · cases h3
      exact hc
theorem LH_entry (vs : List Value) {n : Nat} (hc : vs.all (fun v => v.category == 1) = true) (hn : vs.length ≤ n) : LH ((lg_sl vs ++ List.replicate (n - (lg_sl vs).length) Slot.unset).toArray) n (vs.map some ++ List.replicate (n - vs.length) none) := by
  have hcat : ∀ v ∈ vs, v.category = 1 := fun v hv => by simpa using List.all_eq_true.mp hc v hv
  have hsl : ∀ ws : List Value, (∀ v ∈ ws, v.category = 1) → (lg_sl ws).length = ws.length := by
    intro ws
    induction ws with
    | nil => intro _; rfl
    | cons w ws ih =>
      intro h
      have h1 := h w List.mem_cons_self
      have h2 := ih (fun v hv => h v (List.mem_cons_of_mem _ hv))
      simp [lg_sl, h1] at h2 ⊢
      first | exact h2 | omega
  have harg : ∀ (ws : List Value) (i : Nat), (∀ v ∈ ws, v.category = 1) → lv_args i ws = asc (ws.map some) i := by
    intro ws
    induction ws with
    | nil => intro i _; rfl
    | cons w ws ih =>
      intro i h
      have h1 := h w List.mem_cons_self
      have h2 := ih (i + 1) (fun v hv => h v (List.mem_cons_of_mem _ hv))
      simp [lv_args, asc, h1, h2]
  have hl := lv_entry vs (n := n) (by rw [hsl vs hcat]; exact hn)
  refine ⟨⟨hl.1, hl.2.1, fun q hq => hl.2.2 q ?_⟩, fun v hv => ?_, by simp; omega⟩
  · obtain ⟨i, v⟩ := q
    obtain ⟨k, e, hk⟩ := (mem_asc _ 0 i v).mp hq
    rw [harg vs 0 hcat]
    refine (mem_asc _ 0 i v).mpr ⟨k, e, ?_⟩
    by_cases hlt : k < (vs.map some).length
    · rwa [List.getElem?_append_left hlt] at hk
    · rw [List.getElem?_append_right (by omega)] at hk
      have := List.mem_of_getElem? hk
      have := List.eq_of_mem_replicate this
      cases this
  · rcases List.mem_append.mp hv with h | h
    · obtain ⟨w, hw, e⟩ := List.mem_map.mp h
      cases e
      exact hcat _ hw
    · have := List.eq_of_mem_replicate h
      cases this
