/-! ===== the model prints ===== -/
def itr {X : Type} (g : Nat → X → X) : Nat → X → X
  | 0, s => s
  | n + 1, s => g n (itr g n s)
theorem itr_add {X : Type} (g : Nat → X → X) (a : Nat) : ∀ b s, itr g (a + b) s = itr (fun i => g (a + i)) b (itr g a s) := by
  intro b
  induction b with
  | zero => intro s; rfl
  | succ b ih =>
    intro s
    show g (a + b) (itr g (a + b) s) = _
    rw [ih]
    rfl
theorem itr_mul {X : Type} (g : Nat → X → X) (w : Nat) : ∀ m s, itr g (w * m) s = itr (fun k s => itr (fun f s => g (w * k + f) s) w s) m s := by
  intro m
  induction m with
  | zero => intro s; rfl
  | succ m ih =>
    intro s
    rw [Nat.mul_succ, itr_add, ih]
    rfl
theorem itr_cut {X : Type} {g : Nat → X → X} {n : Nat} : ∀ m, n ≤ m → (∀ i, n ≤ i → i < m → ∀ s, g i s = s) → ∀ s, itr g m s = itr g n s := by
  intro m
  induction m with
  | zero => intro h _ s; rw [Nat.le_zero.mp h]
  | succ m ih =>
    intro h hz s
    rcases Nat.lt_or_ge m n with z | z
    · have : n = m + 1 := by omega
      rw [this]
    · show g m (itr g m s) = _
      rw [hz m z (by omega), ih z (fun i h1 h2 => hz i h1 (by omega))]
theorem itr_cong {X : Type} {g g' : Nat → X → X} : ∀ n, (∀ i, i < n → ∀ s, g i s = g' i s) → ∀ s, itr g n s = itr g' n s := by
  intro n
  induction n with
  | zero => intro _ s; rfl
  | succ n ih =>
    intro h s
    show g n (itr g n s) = g' n (itr g' n s)
    rw [h n (by omega), ih (fun i hi => h i (by omega))]
theorem frL_i (j o c : Nat) : ∀ n s, frL j o c n s = itr (fun f (s : AS × Nat) => if s.2 < 8 ∧ lackQ s.1 o c f = true then (lay1 s.1 j o c f s.2, s.2 + 1) else s) n s := by
  intro n
  induction n with
  | zero => intro s; rfl
  | succ n ih =>
    intro s
    simp only [frL, itr]
    rw [ih]
theorem cpL_i (j o len : Nat) : ∀ n s, cpL j o len n s = itr (fun c (s : AS × Nat) => frL j o c len s) n s := by
  intro n
  induction n with
  | zero => intro s; rfl
  | succ n ih =>
    intro s
    simp only [cpL, itr]
    rw [ih]
theorem trL_i (j : Nat) (A : AS) : ∀ n s, trL j A n s = itr (fun k (s : AS × Nat) => cpL j (tnA A k) (aLen A (aOb A (tnA A k))) (aNc A (tnA A k)) s) n s := by
  intro n
  induction n with
  | zero => intro s; rfl
  | succ n ih =>
    intro s
    simp only [trL, itr]
    rw [ih]
/-- the same books, orders and folds -/
def sm0 (A B : AS) : Prop := (aNb B = aNb A ∧ aNo B = aNo A ∧ aTol B = aTol A ∧ aSp B = aSp A) ∧ (B.1 1 = A.1 1 ∧ B.1 2 = A.1 2 ∧ B.1 3 = A.1 3 ∧ B.1 4 = A.1 4 ∧ B.1 7 = A.1 7 ∧ B.1 10 = A.1 10) ∧ B.2 0 = A.2 0 ∧ B.2 1 = A.2 1 ∧ B.2 2 = A.2 2
theorem sm0.rf {A : AS} : sm0 A A := ⟨⟨rfl, rfl, rfl, rfl⟩, ⟨rfl, rfl, rfl, rfl, rfl, rfl⟩, rfl, rfl, rfl⟩
theorem sm0.tr {A B C : AS} (h : sm0 A B) (h2 : sm0 B C) : sm0 A C := by
  obtain ⟨⟨a1, a2, a3, a4⟩, ⟨b1, b2, b3, b4, b5, b6⟩, c1, c2, c3⟩ := h
  obtain ⟨⟨a1', a2', a3', a4'⟩, ⟨b1', b2', b3', b4', b5', b6'⟩, c1', c2', c3'⟩ := h2
  exact ⟨⟨a1'.trans a1, a2'.trans a2, a3'.trans a3, a4'.trans a4⟩, ⟨b1'.trans b1, b2'.trans b2, b3'.trans b3, b4'.trans b4, b5'.trans b5, b6'.trans b6⟩, c1'.trans c1, c2'.trans c2, c3'.trans c3⟩
theorem sm0.same {A B : AS} (h : sameA A B) : sm0 A B := by
  obtain ⟨h1, h2⟩ := h
  have e0 := h1 0 (by decide) (by decide) (by decide)
  exact ⟨⟨by unfold aNb; rw [e0], by unfold aNo; rw [e0], by unfold aTol; rw [e0], by unfold aSp; rw [e0]⟩, ⟨h1 1 (by decide) (by decide) (by decide), h1 2 (by decide) (by decide) (by decide), h1 3 (by decide) (by decide) (by decide), h1 4 (by decide) (by decide) (by decide), h1 7 (by decide) (by decide) (by decide), h1 10 (by decide) (by decide) (by decide)⟩, h2 0 (by decide), h2 1 (by decide), h2 2 (by decide)⟩
theorem sm0.nws (A : AS) : sm0 A (newS A) :=
  ⟨⟨rfl, rfl, rfl, rfl⟩, ⟨newS_r (by decide) (by decide) (by decide) (by decide), newS_r (by decide) (by decide) (by decide) (by decide), newS_r (by decide) (by decide) (by decide) (by decide), newS_r (by decide) (by decide) (by decide) (by decide), newS_r (by decide) (by decide) (by decide) (by decide), newS_r (by decide) (by decide) (by decide) (by decide)⟩, rfl, rfl, rfl⟩
section Sm0
variable {A B : AS}
theorem sm0.ob (h : sm0 A B) (o : Nat) : aOb B o = aOb A o := by unfold aOb; rw [h.2.1.2.1]
theorem sm0.nc (h : sm0 A B) (o : Nat) : aNc B o = aNc A o := by unfold aNc; rw [h.2.1.2.2.1]
theorem sm0.bd (h : sm0 A B) (o c : Nat) : aBd B o c = aBd A o c := by unfold aBd; rw [h.2.1.2.2.2.1]
theorem sm0.fd (h : sm0 A B) : aFd B = aFd A := by unfold aFd; rw [h.2.1.2.2.2.2.1]
theorem sm0.row (h : sm0 A B) (i : Nat) : aRow B i = aRow A i := by
  obtain ⟨-, ⟨b1, -⟩, c1, c2, c3⟩ := h
  unfold aRow aSz aPs aBt aCv
  rw [b1, c1, c2, c3]
theorem sm0.len (h : sm0 A B) (i : Nat) : aLen B i = aLen A i := by unfold aLen; rw [h.row]
theorem sm0.pos (h : sm0 A B) (i f : Nat) : posA B i f = posA A i f := by unfold posA; rw [h.len, h.row]
theorem sm0.tn (h : sm0 A B) (k : Nat) : tnA B k = tnA A k := tnA_cong h.1.2.1 h.2.1.1 h.2.1.2.1 h.2.2.1 h.2.2.2.1 h.2.2.2.2 k
end Sm0
/-- one leaf, if it is wanted and there is a place -/
def fst1 (A : AS) (j n : Nat) (s : AS × Nat) : AS × Nat := if s.2 < 8 ∧ lkW A s.1 n = true then (lay1 s.1 j (tnA A (n / 43 / 3)) (n / 43 % 3) (n % 43) s.2, s.2 + 1) else s
theorem trL_fl {A B : AS} (hv : VU A) (hs : sm0 A B) (j : Nat) (s : AS × Nat) : trL j B (aNo B) s = itr (fst1 A j) (129 * aNo A) s := by
  rw [trL_i, itr_mul, hs.1.2.1]
  refine itr_cong _ (fun r hr s => ?_) s
  obtain ⟨t1, t2⟩ := tn_lt hr
  have h3 := (hv.2.2.2.2.2.1 _ t1).2.2
  have h43 := hv.len (hv.2.2.2.2.2.1 _ t1).1
  rw [hs.tn, hs.ob, hs.len, hs.nc, cpL_i, show (129 : Nat) = 43 * 3 from rfl, itr_mul]
  rw [itr_cut (n := aNc A (tnA A r)) 3 h3 (fun c h1 h2 s => ?_)]
  · refine itr_cong _ (fun c hc s => ?_) s
    rw [frL_i, itr_cut (n := aLen A (aOb A (tnA A r))) 43 h43 (fun f h1 h2 s => ?_)]
    · refine itr_cong _ (fun f hf s => ?_) s
      have e1 : (43 * 3 * r + (43 * c + f)) / 43 / 3 = r := by omega
      have e2 : (43 * 3 * r + (43 * c + f)) / 43 % 3 = c := by omega
      have e3 : (43 * 3 * r + (43 * c + f)) % 43 = f := by omega
      unfold fst1 lkW lkG
      rw [e1, e2, e3, decide_eq_true hc, decide_eq_true hf]
      rfl
    · have e1 : (43 * 3 * r + (43 * c + f)) / 43 / 3 = r := by omega
      have e3 : (43 * 3 * r + (43 * c + f)) % 43 = f := by omega
      unfold fst1 lkW lkG
      rw [e1, e3, decide_eq_false (show ¬ f < aLen A (aOb A (tnA A r)) by omega), Bool.and_false, Bool.false_and]
      exact if_neg (fun z => absurd z.2 (by decide))
  · rw [itr_cut (n := 0) 43 (by omega) (fun f h3 h4 s => ?_)]
    · rfl
    · have e1 : (43 * 3 * r + (43 * c + f)) / 43 / 3 = r := by omega
      have e2 : (43 * 3 * r + (43 * c + f)) / 43 % 3 = c := by omega
      unfold fst1 lkW lkG
      rw [e1, e2, decide_eq_false (show ¬ c < aNc A (tnA A r) by omega), Bool.false_and, Bool.false_and]
      exact if_neg (fun z => absurd z.2 (by decide))
theorem lkW_iff {A B : AS} {n : Nat} : lkW A B n = true ↔ n / 43 % 3 < aNc A (tnA A (n / 43 / 3)) ∧ n % 43 < aLen A (aOb A (tnA A (n / 43 / 3))) ∧ aBd B (tnA A (n / 43 / 3)) (n / 43 % 3) = 0 ∧ aHl B (tnA A (n / 43 / 3)) (n / 43 % 3) (n % 43) = 0 := by
  unfold lkW lkG lackQ
  simp only [Bool.and_eq_true, decide_eq_true_eq, and_assoc]
theorem lkW_lay {A B : AS} {j n m p : Nat} (hn : n < 129 * aNo A) (hm : m < 129 * aNo A) :
    lkW A (lay1 B j (tnA A (n / 43 / 3)) (n / 43 % 3) (n % 43) p) m = true ↔ lkW A B m = true ∧ m ≠ n := by
  rw [lkW_iff, lkW_iff, lay_h]
  show _ ∧ _ ∧ aBd B _ _ = 0 ∧ _ ↔ _
  by_cases hz : m = n
  · subst hz
    rw [if_pos ⟨rfl, rfl, rfl⟩]
    exact ⟨fun z => absurd z.2.2.2 (by decide), fun z => absurd rfl z.2⟩
  · rw [if_neg (fun w => hz ?_)]
    · exact ⟨fun z => ⟨z, hz⟩, fun z => z.1⟩
    · obtain ⟨w1, w2, w3⟩ := w
      have k1 := (tn_lt (A := A) (show m / 43 / 3 < aNo A by omega)).2
      have k2 := (tn_lt (A := A) (show n / 43 / 3 < aNo A by omega)).2
      rw [w1, k2] at k1
      omega
/-- the state behind n leaves that were looked at -/
def flS (A B : AS) (n : Nat) : AS × Nat := itr (fst1 A (aNs B)) n (newS B, 0)
theorem fl_inv {A B : AS} (hs : sm0 A B) (hv : VU B) (h50 : aNs B < 50) : ∀ n, n ≤ 129 * aNo A →
    sameA (newS B) (flS A B n).1 ∧ VU (flS A B n).1 ∧ (flS A B n).2 = min 8 (ct (lkW A B) n) ∧ ∀ m, m < 129 * aNo A → (lkW A (flS A B n).1 m = true ↔ lkW A B m = true ∧ ¬ (m < n ∧ ct (lkW A B) m < 8)) := by
  intro n
  induction n with
  | zero =>
    intro _
    refine ⟨sameA.rf, hv.nws h50, rfl, fun m hm => ?_⟩
    rw [lkW_iff, lkW_iff]
    have e4 : ∀ o c, aBd (newS B) o c = aBd B o c := fun o c => by unfold aBd; rw [newS_r (by decide) (by decide) (by decide) (by decide)]
    have e5 : ∀ o c f, aHl (newS B) o c f = aHl B o c f := fun o c f => by unfold aHl; rw [newS_r (by decide) (by decide) (by decide) (by decide)]
    show (_ ∧ _ ∧ aBd (newS B) _ _ = 0 ∧ aHl (newS B) _ _ _ = 0) ↔ _
    rw [e4, e5]
    exact ⟨fun z => ⟨z, fun w => absurd w.1 (Nat.not_lt_zero m)⟩, fun z => z.1⟩
  | succ n ih =>
    intro hn
    obtain ⟨i1, i2, i3, i4⟩ := ih (by omega)
    have hself := i4 n (by omega)
    have hself : lkW A (flS A B n).1 n = true ↔ lkW A B n = true := ⟨fun z => (hself.mp z).1, fun z => hself.mpr ⟨z, fun w => absurd w.1 (Nat.lt_irrefl n)⟩⟩
    have e : flS A B (n + 1) = fst1 A (aNs B) n (flS A B n) := rfl
    rw [e]
    unfold fst1
    by_cases hc : (flS A B n).2 < 8 ∧ lkW A (flS A B n).1 n = true
    · rw [if_pos hc]
      have hl := hself.mp hc.2
      obtain ⟨c1, c2, -⟩ := lkW_iff.mp hl
      have t1 := (tn_lt (A := A) (show n / 43 / 3 < aNo A by omega)).1
      have hs1 : sm0 A (flS A B n).1 := (hs.tr (sm0.nws B)).tr (sm0.same i1)
      have ens : aNs (flS A B n).1 = aNs B + 1 := by
        have := i1.1 0 (by decide) (by decide) (by decide)
        unfold aNs
        rw [this]
        rfl
      refine ⟨i1.lay _ _ _ _ _, i2.lay (by rw [hs1.1.2.1]; exact t1) (by rw [hs1.nc]; exact c1) (by rw [hs1.ob, hs1.len]; exact c2) (by rw [ens]; exact Nat.lt_succ_self _), ?_, fun m hm => ?_⟩
      · show (flS A B n).2 + 1 = _
        rw [ct_s1 hl]
        have := hc.1
        omega
      · have hc1 := hc.1
        rw [lkW_lay (by omega) hm, i4 m hm]
        constructor
        · rintro ⟨⟨z1, z2⟩, z3⟩
          exact ⟨z1, fun w => z2 ⟨by omega, w.2⟩⟩
        · rintro ⟨z1, z2⟩
          refine ⟨⟨z1, fun w => z2 ⟨by omega, w.2⟩⟩, fun w => z2 ⟨by omega, ?_⟩⟩
          rw [w]
          omega
    · rw [if_neg hc]
      refine ⟨i1, i2, ?_, fun m hm => ?_⟩
      · rw [i3]
        by_cases hl : lkW A B n = true
        · rw [ct_s1 hl]
          have : ¬ (flS A B n).2 < 8 := fun w => hc ⟨w, hself.mpr hl⟩
          omega
        · rw [ct_s0 (Bool.eq_false_iff.mpr hl)]
      · rw [i4 m hm]
        constructor
        · rintro ⟨z1, z2⟩
          refine ⟨z1, fun w => ?_⟩
          by_cases hz : m = n
          · subst hz
            exact hc ⟨by omega, hself.mpr z1⟩
          · exact z2 ⟨by omega, w.2⟩
        · rintro ⟨z1, z2⟩
          exact ⟨z1, fun w => z2 ⟨by omega, w.2⟩⟩
/-- leaves that are not wanted, or find no place, leave the state -/
theorem fl_skip {A B : AS} (hs : sm0 A B) (hv : VU B) (h50 : aNs B < 50) {n : Nat} : ∀ d, n + d ≤ 129 * aNo A → ((flS A B n).2 = 8 ∨ ct (lkW A B) (n + d) = ct (lkW A B) n) → flS A B (n + d) = flS A B n := by
  intro d
  induction d with
  | zero => intro _ _; rfl
  | succ d ih =>
    intro hn h
    have h' : (flS A B n).2 = 8 ∨ ct (lkW A B) (n + d) = ct (lkW A B) n := by
      refine h.imp id (fun z => ?_)
      have h1 := ct_mn (p := lkW A B) (show n ≤ n + d by omega)
      have h2 := ct_mn (p := lkW A B) (show n + d ≤ n + (d + 1) by omega)
      omega
    have e := ih (by omega) h'
    show fst1 A (aNs B) (n + d) (flS A B (n + d)) = _
    unfold fst1
    rw [if_neg (fun w => ?_), e]
    rcases h with z | z
    · rw [e] at w; omega
    · have hl := (((fl_inv hs hv h50 (n + d) (by omega)).2.2.2 (n + d) (by omega)).mp w.2).1
      have h1 := ct_mn (p := lkW A B) (show n ≤ n + d by omega)
      have h2 := ct_si hl (show n + d < n + (d + 1) by omega)
      omega
theorem pr1_fl {A B : AS} (hv : VU A) (hs : sm0 A B) : pr1 B = (flS A B (129 * aNo A)).1 := by
  unfold pr1 flS
  rw [← trL_fl hv (hs.tr (sm0.nws B))]
  rfl
theorem ct_ge {p q : Nat → Bool} {a T : Nat} (h : ∀ m, m < T → (q m = true ↔ p m = true ∧ a ≤ ct p m)) : ∀ n, n ≤ T → ct q n = ct p n - a := by
  intro n
  induction n with
  | zero => intro _; simp [ct]
  | succ n ih =>
    intro hn
    have ih := ih (by omega)
    have hq := h n (by omega)
    cases hp : p n with
    | false =>
      have : q n = false := Bool.eq_false_iff.mpr (fun z => by
        have := (hq.mp z).1
        rw [hp] at this
        exact absurd this (by decide))
      rw [ct_s0 this, ct_s0 hp, ih]
    | true =>
      rw [ct_s1 hp]
      by_cases ha : a ≤ ct p n
      · rw [ct_s1 (hq.mpr ⟨hp, ha⟩), ih]; omega
      · rw [ct_s0 (Bool.eq_false_iff.mpr (fun z => ha (hq.mp z).2)), ih]; omega
/-- what is wanted still behind k sheets -/
def wkA (A B : AS) (k : Nat) : Prop := ∀ m, m < 129 * aNo A → (lkW A B m = true ↔ lkW A A m = true ∧ 8 * k ≤ ct (lkW A A) m)
theorem prI_inv {A : AS} (hv : VU A) : ∀ k, aNs A + k ≤ 50 → sm0 A (prI A k) ∧ VU (prI A k) ∧ aNs (prI A k) = aNs A + k ∧ wkA A (prI A k) k := by
  intro k
  induction k with
  | zero =>
    intro _
    refine ⟨sm0.rf, hv, rfl, fun m hm => ?_⟩
    exact ⟨fun z => ⟨z, by omega⟩, fun z => z.1⟩
  | succ k ih =>
    intro h
    obtain ⟨h1, h2, h3, h4⟩ := ih (by omega)
    have h50 : aNs (prI A k) < 50 := by omega
    obtain ⟨i1, i2, i3, i4⟩ := fl_inv h1 h2 h50 (129 * aNo A) (Nat.le_refl _)
    have e : prI A (k + 1) = (flS A (prI A k) (129 * aNo A)).1 := pr1_fl hv h1
    rw [e]
    refine ⟨(h1.tr (sm0.nws _)).tr (sm0.same i1), i2, ?_, fun m hm => ?_⟩
    · have := i1.1 0 (by decide) (by decide) (by decide)
      unfold aNs at h3 ⊢
      rw [this]
      show aNs (prI A k) + 1 = _
      unfold aNs
      omega
    · rw [i4 m hm, h4 m hm, ct_ge h4 m (by omega)]
      constructor
      · rintro ⟨⟨z1, z2⟩, z3⟩
        refine ⟨z1, Classical.byContradiction (fun w => z3 ⟨hm, by omega⟩)⟩
      · rintro ⟨z1, z2⟩
        exact ⟨⟨z1, by omega⟩, fun w => by omega⟩
def uP4 (R : Nat → Nat → Int32) (a b c d : Nat → Int32) : Nat → Nat → Int32 := uR (uR (uR (uR R 9 a) 10 b) 11 c) 15 d
theorem uP4_4 (R : Nat → Nat → Int32) (a b c d e f g h : Nat → Int32) : uR (uR (uR (uR (uP4 R a b c d) 9 e) 10 f) 11 g) 15 h = uP4 R e f g h := by
  funext k
  by_cases h9 : k = 9
  · subst h9; rfl
  · by_cases h10 : k = 10
    · subst h10; rfl
    · by_cases h11 : k = 11
      · subst h11; rfl
      · by_cases h15 : k = 15
        · subst h15; rfl
        · simp only [uP4, uR, if_neg h9, if_neg h10, if_neg h11, if_neg h15]
theorem uP4_id (R : Nat → Nat → Int32) (d : Nat → Int32) : uP4 R (R 9) (R 10) (R 11) d = uR R 15 d := by
  funext k
  by_cases h9 : k = 9
  · subst h9; rfl
  · by_cases h10 : k = 10
    · subst h10; rfl
    · by_cases h11 : k = 11
      · subst h11; rfl
      · by_cases h15 : k = 15
        · subst h15; rfl
        · simp only [uP4, uR, if_neg h9, if_neg h10, if_neg h11, if_neg h15]
theorem mLv.nws {r9 r10 r11 : Nat → Int32} {B : AS} (hv : VU B) (h : mLv r9 r10 r11 B) : mLv r9 r10 r11 (newS B) := by
  intro o ho c hc f hf
  have ho : o < aNo B := ho
  have e5 : aHl (newS B) o c f = aHl B o c f := by unfold aHl; rw [newS_r (by decide) (by decide) (by decide) (by decide)]
  have e6 : aLs (newS B) o c f = aLs B o c f := by unfold aLs; rw [newS_r (by decide) (by decide) (by decide) (by decide)]
  have e9 : aHl B o c f = 1 → aTr (newS B) (aLs B o c f) = aTr B (aLs B o c f) := by
    intro z
    have := ((hv.2.2.2.2.2.2.2.2.2.2 o ho c f hf).2 z).2.1
    unfold aTr
    rw [newS_o (by decide) (by omega)]
  obtain ⟨w1, w2, w3⟩ := h o ho c hc f hf
  rw [e5, e6]
  refine ⟨w1, ?_, w3⟩
  rw [w2]
  by_cases z : aHl B o c f = 1
  · rw [if_pos z, if_pos z, e9 z]
  · rw [if_neg z, if_neg z]
/-- the row of what lies on the sheets, the one that is printed among them -/
def mLi (r15 : Nat → Int32) (A : AS) (n : Nat) : Prop := ∀ j, j < n → ∀ x, x < 8 → r15 (8 * j + x) = trV (aLi A j x)
theorem mLv.lay {r9 r10 r11 : Nat → Int32} {B : AS} {j o c f p : Nat} (h : mLv r9 r10 r11 B) (hc : c < 3) (hf : f < 43) (ht : aTr B j = 0) : mLv (upd r9 (LX o c f) (posA B (aOb B o) f)) (upd r10 (LX o c f) (nI j)) (upd r11 (LX o c f) (-1)) (lay1 B j o c f p) := by
  intro o' ho' c' hc' f' hf'
  have ho' : o' < aNo B := ho'
  obtain ⟨w1, w2, w3⟩ := h o' ho' c' hc' f' hf'
  rw [lay_h, lay_s, lay_p]
  show _ ∧ _ = (if _ then trV (aTr B _) else _) ∧ _
  by_cases hz : o' = o ∧ c' = c ∧ f' = f
  · obtain ⟨rfl, rfl, rfl⟩ := hz
    simp only [if_true, and_self, pk_us]
    refine ⟨trivial, ?_, fun _ => trivial⟩
    rw [ht]
    rfl
  · have hne : LX o' c' f' ≠ LX o c f := by
      intro w
      obtain ⟨a1, a2, a3⟩ := LX_o (o := o') hc' hf'
      obtain ⟨b1, b2, b3⟩ := LX_o (o := o) hc hf
      rw [w] at a1 a2 a3
      exact hz ⟨a1.symm.trans b1, a2.symm.trans b2, a3.symm.trans b3⟩
    rw [if_neg hz, if_neg hz, if_neg hz, pk_un hne, pk_un hne, pk_un hne]
    exact ⟨w1, w2, w3⟩
theorem mLi.lay {r15 : Nat → Int32} {B : AS} {j n o c f p u : Nat} (h : mLi r15 B n) (hu : unf (aFd B) p = u) (hu8 : u < 8) : mLi (upd r15 (8 * j + u) (nI (10000 * o + 1000 * c + f))) (lay1 B j o c f p) n := by
  intro i hi x hx
  rw [lay_i, hu]
  by_cases hz : i = j ∧ x = u
  · obtain ⟨rfl, rfl⟩ := hz
    rw [pk_us, if_pos ⟨rfl, rfl, rfl⟩]
    rfl
  · rw [pk_un (fun w => hz (by omega)), if_neg (fun w => hz ⟨w.1, w.2.1⟩)]
    exact h i hi x hx

