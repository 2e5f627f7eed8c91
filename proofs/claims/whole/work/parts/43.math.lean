/-! ===== numbers: positions stay in their range; ranks of orders ===== -/
theorem neg_div {m n : Nat} (hm : m < 2147483648) (h0 : 0 < n) (hn : n < 2147483648) : -nI m / nI n = -nI (m / n) := by
  apply Int32.toInt_inj.mp
  have hne : nI n ≠ -1 := fun z => by
    have := nI_pos (n := n) hn
    rw [z] at this
    exact this (by decide)
  rw [Int32.toInt_div_of_ne_right _ _ hne, sb_negT hm, nI_toInt hn, sb_negT (Nat.lt_of_le_of_lt (Nat.div_le_self m n) hm), Int.neg_tdiv, Int.ofNat_tdiv]
def midN (a b j N k : Nat) : Nat := if a ≤ b then a + (b - a) * shrN j N k / (N * N) else a - (a - b) * shrN j N k / (N * N)
theorem shr_le : ∀ N, N < 7 → ∀ j, j < 7 → j ≤ N → ∀ k, k < 4 → shrN j N k ≤ N * N := by decide
theorem sh_div {d s w : Nat} (h : s ≤ w) : d * s / w ≤ d := by
  rcases Nat.eq_zero_or_pos w with z | z
  · subst z; simp
  · exact Nat.div_le_of_le_mul (by rw [Nat.mul_comm w d]; exact Nat.mul_le_mul_left d h)
theorem mid_n {a b j N k : Nat} (ha : a ≤ 999) (hb : b ≤ 999) (h1 : 1 ≤ N) (hN : N < 7) (hj : j ≤ N) (hk : k < 4) : mid (nI a) (nI b) j N k = nI (midN a b j N k) ∧ midN a b j N k ≤ 999 := by
  have hs := shr_le N hN j (by omega) hj k hk
  have hw : N * N ≤ 36 := Nat.mul_le_mul (by omega : N ≤ 6) (by omega : N ≤ 6)
  have hw0 : 0 < N * N := Nat.mul_pos h1 h1
  unfold mid midN
  by_cases hab : a ≤ b
  · have hp : (b - a) * shrN j N k ≤ 999 * 36 := Nat.mul_le_mul (by omega) (by omega)
    have hd := sh_div (d := b - a) hs
    rw [if_pos hab, pk_sub hab, pk_mul, pk_div (by omega) hw0 (by omega), nI_add]
    exact ⟨rfl, by omega⟩
  · have hp : (a - b) * shrN j N k ≤ 999 * 36 := Nat.mul_le_mul (by omega) (by omega)
    have hd := sh_div (d := a - b) hs
    have e : nI b - nI a = -nI (a - b) := by rw [← pk_sub (show b ≤ a by omega), Int32.neg_sub]
    rw [if_neg hab, e, Int32.neg_mul, pk_mul, neg_div (by omega) hw0 (by omega), Int32.add_neg_eq_sub, pk_sub (by omega)]
    exact ⟨rfl, Nat.le_trans (Nat.sub_le _ _) ha⟩
theorem seg_rng {p e c : Nat → Int32} {n i : Nat} (h : VB p e c n) (hi : i < n) : ∀ x ∈ seg p e c n i, ∃ m, m ≤ 999 ∧ x = nI m := by
  obtain ⟨⟨a, ha, ea⟩, ⟨m, hm, em⟩, ⟨k, hk, ek⟩⟩ := h i hi
  intro x hx
  unfold seg at hx
  rcases List.mem_cons.mp hx with z | z
  · exact ⟨a, ha, z.trans ea⟩
  · split at z
    · rename_i hin
      obtain ⟨⟨b, hb, eb⟩, -⟩ := h (i + 1) hin
      obtain ⟨j, hj, rfl⟩ := List.mem_map.mp z
      rw [em, nI_clamp (show m < 2 ^ 31 by omega), List.mem_range] at hj
      rw [ea, eb, em, ek, nI_clamp (show m < 2 ^ 31 by omega), nI_clamp (show k < 2 ^ 31 by omega)]
      obtain ⟨q1, q2⟩ := mid_n (j := j + 1) (N := m + 1) (k := k) ha hb (by omega) (by omega) (by omega) (by omega)
      exact ⟨_, q2, q1⟩
    · cases z
theorem frs_rng {p e c : Nat → Int32} {n : Nat} (h : VB p e c n) : ∀ i, i ≤ n → ∀ x ∈ frs p e c n i, ∃ m, m ≤ 999 ∧ x = nI m := by
  intro i
  induction i with
  | zero => intro _ x hx; cases hx
  | succ i ih =>
    intro hi x hx
    rcases List.mem_append.mp hx with z | z
    · exact ih (by omega) x z
    · exact seg_rng h (by omega) x z
theorem posA_rng {A : AS} (h : VU A) {i f : Nat} (hi : i < aNb A) (hf : f < aLen A i) : ∃ m, m ≤ 999 ∧ posA A i f = nI m := by
  obtain ⟨h8, hV⟩ := h.2.2.2.2.1 i hi
  unfold posA
  rw [if_neg (by omega)]
  refine frs_rng hV (aSz A i) (Nat.le_refl _) _ ?_
  have hf' : f < (aRow A i).length := hf
  rw [List.getD_eq_getElem?_getD, List.getElem?_eq_getElem hf']
  exact List.getElem_mem hf'
theorem posA_ne {A : AS} (h : VU A) {i f : Nat} (hi : i < aNb A) (hf : f < aLen A i) : posA A i f ≠ -1 := by
  obtain ⟨m, hm, e⟩ := posA_rng h hi hf
  rw [e]
  intro z
  have := nI_pos (n := m) (by omega)
  rw [z] at this
  exact this (by decide)
theorem ct_mono {p q : Nat → Bool} : ∀ n, (∀ i, i < n → p i = true → q i = true) → ct p n ≤ ct q n := by
  intro n
  induction n with
  | zero => intro _; exact Nat.le_refl _
  | succ n ih =>
    intro h
    have h1 := ih (fun i hi => h i (by omega))
    have h2 := h n (by omega)
    simp only [ct]
    cases hp : p n with
    | false => simp; split <;> omega
    | true => rw [h2 hp]; simp; exact h1
theorem ct_lt {p q : Nat → Bool} : ∀ n, (∀ i, i < n → p i = true → q i = true) → (∃ i, i < n ∧ p i = false ∧ q i = true) → ct p n < ct q n := by
  intro n
  induction n with
  | zero => rintro _ ⟨i, hi, _⟩; exact absurd hi (Nat.not_lt_zero i)
  | succ n ih =>
    rintro h ⟨i, hi, hp, hq⟩
    simp only [ct]
    rcases Nat.lt_or_ge i n with z | z
    · have h1 := ih (fun i hi => h i (by omega)) ⟨i, z, hp, hq⟩
      have h2 := h n (by omega)
      cases hpn : p n with
      | false => simp; split <;> omega
      | true => rw [h2 hpn]; simp; exact h1
    · have : i = n := by omega
      subst this
      have h1 := ct_mono i (fun i' hi' => h i' (by omega))
      rw [hp, hq]
      simp
      omega
/-- how many orders are ahead -/
def rkA (A : AS) (o : Nat) : Nat := ct (fun i => ahQ A i o) (aNo A)
theorem ahQ_iff {A : AS} {i j : Nat} : ahQ A i j = true ↔ (aLen A (aOb A j) < aLen A (aOb A i) ∨ aLen A (aOb A i) = aLen A (aOb A j) ∧ i < j) := decide_eq_true_iff
theorem rk_lt {A : AS} {o : Nat} (ho : o < aNo A) : rkA A o < aNo A := by
  have h : ct (fun i => ahQ A i o) (aNo A) < ct (fun _ => true) (aNo A) := ct_lt _ (fun _ _ _ => rfl) ⟨o, ho, by
    cases z : ahQ A o o with
    | false => rfl
    | true =>
      have := ahQ_iff.mp z
      omega, rfl⟩
  exact Nat.lt_of_lt_of_le h (ct_le _ _)
theorem rk_ah {A : AS} {o o' : Nat} (ho : o < aNo A) (h : ahQ A o o' = true) : rkA A o < rkA A o' := by
  refine ct_lt _ (fun i _ hi => ?_) ⟨o, ho, ?_, h⟩
  · have h1 := ahQ_iff.mp hi
    have h2 := ahQ_iff.mp h
    exact ahQ_iff.mpr (by omega)
  · cases z : ahQ A o o with
    | false => rfl
    | true =>
      have := ahQ_iff.mp z
      omega
theorem rk_tot {A : AS} {o o' : Nat} (h : o ≠ o') : ahQ A o o' = true ∨ ahQ A o' o = true := by
  rw [ahQ_iff, ahQ_iff]
  omega
theorem rk_inj {A : AS} {o o' : Nat} (ho : o < aNo A) (ho' : o' < aNo A) (h : rkA A o = rkA A o') : o = o' := by
  refine Classical.byContradiction (fun hne => ?_)
  rcases rk_tot (A := A) hne with z | z
  · have := rk_ah ho z; omega
  · have := rk_ah ho' z; omega
/-- the last below n that r takes to k -/
def lsF (r : Nat → Nat) (k : Nat) : Nat → Nat
  | 0 => 0
  | n + 1 => if r n = k then n else lsF r k n
theorem lsF_eq {r : Nat → Nat} {k : Nat} : ∀ n i, i < n → r i = k → (∀ j, j < n → r j = k → j = i) → lsF r k n = i := by
  intro n
  induction n with
  | zero => intro i h; exact absurd h (Nat.not_lt_zero i)
  | succ n ih =>
    intro i hi hr hu
    simp only [lsF]
    by_cases h : r n = k
    · rw [if_pos h]; exact hu n (by omega) h
    · rw [if_neg h]
      refine ih i ?_ hr (fun j hj => hu j (by omega))
      rcases Nat.lt_or_ge i n with z | z
      · exact z
      · have : i = n := by omega
        subst this
        exact absurd hr h
/-- no more things than places -/
theorem pigeon : ∀ (n : Nat) (r : Nat → Nat), (∀ i, i < n + 1 → r i < n) → (∀ i j, i < n + 1 → j < n + 1 → r i = r j → i = j) → False := by
  intro n
  induction n with
  | zero => intro r h _; exact absurd (h 0 (by omega)) (Nat.not_lt_zero _)
  | succ n ih =>
    intro r h hi
    refine ih (fun i => if r i = n then r (n + 1) else r i) (fun i hin => ?_) (fun i j hin hjn e => ?_)
    · show (if r i = n then r (n + 1) else r i) < n
      have h1 := h i (by omega)
      have h2 := h (n + 1) (by omega)
      split
      · rename_i z
        have : r (n + 1) ≠ n := fun w => by
          have := hi i (n + 1) (by omega) (by omega) (z.trans w.symm)
          omega
        omega
      · omega
    · have e' : (if r i = n then r (n + 1) else r i) = (if r j = n then r (n + 1) else r j) := e
      split at e' <;> split at e'
      · rename_i a b; exact hi i j (by omega) (by omega) (a.trans b.symm)
      · have := hi (n + 1) j (by omega) (by omega) e'; omega
      · have := hi i (n + 1) (by omega) (by omega) e'; omega
      · exact hi i j (by omega) (by omega) e'
theorem surj_n {n : Nat} {r : Nat → Nat} (h : ∀ i, i < n → r i < n) (hi : ∀ i j, i < n → j < n → r i = r j → i = j) {k : Nat} (hk : k < n) : ∃ i, i < n ∧ r i = k := by
  refine Classical.byContradiction (fun hno => ?_)
  have hne : ∀ i, i < n → r i ≠ k := fun i hin z => hno ⟨i, hin, z⟩
  obtain ⟨m, rfl⟩ : ∃ m, n = m + 1 := ⟨n - 1, by omega⟩
  refine pigeon m (fun i => if k < r i then r i - 1 else r i) (fun i hin => ?_) (fun i j hin hjn e => ?_)
  · have h1 := h i hin
    have h2 := hne i hin
    show (if k < r i then r i - 1 else r i) < m
    split <;> omega
  · have h1 := hne i hin
    have h2 := hne j hjn
    have e' : (if k < r i then r i - 1 else r i) = (if k < r j then r j - 1 else r j) := e
    refine hi i j hin hjn ?_
    split at e' <;> split at e' <;> omega
/-- the order whose turn is k -/
def tnA (A : AS) (k : Nat) : Nat := lsF (rkA A) k (aNo A)
theorem tn_rk {A : AS} {o : Nat} (ho : o < aNo A) : tnA A (rkA A o) = o := lsF_eq _ o ho rfl (fun j hj e => rk_inj hj ho e)
theorem tn_lt {A : AS} {k : Nat} (hk : k < aNo A) : tnA A k < aNo A ∧ rkA A (tnA A k) = k := by
  obtain ⟨o, ho, e⟩ := surj_n (r := rkA A) (fun i hi => rk_lt hi) (fun i j hi hj e => rk_inj hi hj e) hk
  rw [← e, tn_rk ho]
  exact ⟨ho, rfl⟩

