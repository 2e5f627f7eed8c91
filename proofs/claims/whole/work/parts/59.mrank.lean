/-! ===== the model's ranks; what it wants ===== -/
theorem ct_up (p : Nat → Bool) (n : Nat) : ∀ d, ct p n ≤ ct p (n + d) := by
  intro d
  rw [ct_add]
  omega
theorem ct_mn {p : Nat → Bool} {a b : Nat} (h : a ≤ b) : ct p a ≤ ct p b := by
  have := ct_up p a (b - a)
  rwa [Nat.add_sub_cancel' h] at this
theorem ct_s1 {p : Nat → Bool} {n : Nat} (h : p n = true) : ct p (n + 1) = ct p n + 1 := by simp only [ct, h, if_true]
theorem ct_s0 {p : Nat → Bool} {n : Nat} (h : p n = false) : ct p (n + 1) = ct p n := by simp only [ct, h, Bool.false_eq_true, if_false, Nat.add_zero]
theorem ct_si {p : Nat → Bool} {a b : Nat} (h : p a = true) (hb : a < b) : ct p a < ct p b := by
  have := ct_mn (p := p) (show a + 1 ≤ b from hb)
  rw [ct_s1 h] at this
  exact this
theorem ct_iff {p : Nat → Bool} {a b : Nat} (h : p b = true) : ct p a ≤ ct p b ↔ a ≤ b := by
  refine ⟨fun z => ?_, ct_mn⟩
  rcases Nat.lt_or_ge b a with q | q
  · have := ct_si h q; omega
  · exact q
theorem ct_cut {p : Nat → Bool} {n : Nat} : ∀ m, n ≤ m → (∀ i, n ≤ i → i < m → p i = false) → ct p m = ct p n := by
  intro m
  induction m with
  | zero => intro h _; rw [Nat.le_zero.mp h]
  | succ m ih =>
    intro h hz
    rcases Nat.lt_or_ge m n with z | z
    · have : n = m + 1 := by omega
      rw [this]
    · rw [ct_s0 (hz m z (by omega)), ih z (fun i h1 h2 => hz i h1 (by omega))]
theorem ct_sur {p : Nat → Bool} : ∀ n m, m < ct p n → ∃ k, k < n ∧ p k = true ∧ ct p k = m := by
  intro n
  induction n with
  | zero => intro m h; exact absurd h (Nat.not_lt_zero m)
  | succ n ih =>
    intro m h
    cases hp : p n with
    | false =>
      rw [ct_s0 hp] at h
      obtain ⟨k, h1, h2⟩ := ih m h
      exact ⟨k, by omega, h2⟩
    | true =>
      rw [ct_s1 hp] at h
      rcases Nat.lt_or_ge m (ct p n) with z | z
      · obtain ⟨k, h1, h2⟩ := ih m z
        exact ⟨k, by omega, h2⟩
      · exact ⟨n, by omega, hp, by omega⟩
theorem ct_iv {a b : Nat} (h : a ≤ b) : ∀ n, ct (fun m => decide (a ≤ m ∧ m < b)) n = min n b - min n a := by
  intro n
  induction n with
  | zero => simp [ct]
  | succ n ih =>
    by_cases hz : a ≤ n ∧ n < b
    · rw [ct_s1 (decide_eq_true hz), ih]; omega
    · rw [ct_s0 (decide_eq_false hz), ih]; omega
theorem sm_plus {f g : Nat → Nat} : ∀ n, sm (fun i => f i + g i) n = sm f n + sm g n := by
  intro n
  induction n with
  | zero => rfl
  | succ n ih => simp only [sm, ih]; omega
theorem sm_one {f : Nat → Nat} {j : Nat} : ∀ n, j < n → sm (fun i => if i = j then f i else 0) n = f j := by
  intro n
  induction n with
  | zero => intro h; exact absurd h (Nat.not_lt_zero j)
  | succ n ih =>
    intro h
    simp only [sm]
    by_cases hz : n = j
    · subst hz
      rw [if_pos rfl, sm_0 n (fun i hi => if_neg (by omega))]
      omega
    · rw [if_neg hz, ih (by omega)]
      rfl
/-- a sum over the orders ahead of the turn m, told by turns -/
theorem rk_sum {A : AS} (f : Nat → Nat) : ∀ m, m ≤ aNo A → sm (fun i => if rkA A i < m then f i else 0) (aNo A) = sm (fun k => f (tnA A k)) m := by
  intro m
  induction m with
  | zero => intro _; exact sm_0 _ (fun i _ => if_neg (Nat.not_lt_zero _))
  | succ m ih =>
    intro h
    obtain ⟨t1, t2⟩ := tn_lt (A := A) (show m < aNo A by omega)
    show _ = sm (fun k => f (tnA A k)) m + f (tnA A m)
    rw [← ih (by omega), ← sm_one (f := f) _ t1, ← sm_plus]
    refine sm_cong _ (fun i hi => ?_)
    show (if rkA A i < m + 1 then f i else 0) = (if rkA A i < m then f i else 0) + (if i = tnA A m then f i else 0)
    by_cases hz : i = tnA A m
    · have e : rkA A i = m := by rw [hz, t2]
      rw [if_pos (by omega), if_neg (by omega), if_pos hz]
      omega
    · have e : rkA A i ≠ m := fun z => hz (rk_inj hi t1 (by rw [z, t2]))
      by_cases hlt : rkA A i < m
      · rw [if_pos (by omega), if_pos hlt, if_neg hz]; omega
      · rw [if_neg (by omega), if_neg hlt, if_neg hz]
theorem ah_rk {A : AS} {i o : Nat} (hi : i < aNo A) (ho : o < aNo A) : ahQ A i o = true ↔ rkA A i < rkA A o := by
  refine ⟨rk_ah hi, fun h => ?_⟩
  have hne : i ≠ o := fun z => by rw [z] at h; omega
  rcases rk_tot (A := A) hne with z | z
  · exact z
  · have := rk_ah ho z; omega
theorem ahead_rk {A : AS} {o : Nat} (ho : o < aNo A) : aheadN A o (aNo A) = sm (fun k => lackN A (tnA A k)) (rkA A o) := by
  rw [← rk_sum (lackN A) _ (Nat.le_of_lt (rk_lt ho))]
  unfold aheadN
  refine sm_cong _ (fun i hi => ?_)
  have := ah_rk hi ho
  by_cases hz : rkA A i < rkA A o
  · rw [if_pos hz, if_pos (this.mpr hz)]
  · rw [if_neg hz, if_neg (fun z => hz (this.mp z))]
theorem all_rk {A : AS} : sm (fun k => lackN A (tnA A k)) (aNo A) = allN A (aNo A) := by
  rw [← rk_sum (lackN A) _ (Nat.le_refl _)]
  exact sm_cong _ (fun i hi => if_pos (rk_lt hi))
/-- whether the leaf with the number n, by turns, is one that a copy needs and lacks -/
def lkG (A : AS) (n : Nat) : Bool := decide (n / 43 % 3 < aNc A (tnA A (n / 43 / 3))) && decide (n % 43 < aLen A (aOb A (tnA A (n / 43 / 3))))
def lkW (A B : AS) (n : Nat) : Bool := lkG A n && lackQ B (tnA A (n / 43 / 3)) (n / 43 % 3) (n % 43)
def lfW (A : AS) (n : Nat) : Nat := LX (tnA A (n / 43 / 3)) (n / 43 % 3) (n % 43)
def WP (A : AS) (g : Nat → Int32) (n : Nat) : Prop := ∀ k, k < n → lkW A A k = true → g (ct (lkW A A) k) = nI (lfW A k)
theorem lkW_r {A : AS} (hv : VU A) {r : Nat} (hr : r < aNo A) : ct (fun i => lkW A A (129 * r + i)) 129 = lackN A (tnA A r) := by
  obtain ⟨t1, t2⟩ := tn_lt hr
  have h3 := (hv.2.2.2.2.2.1 _ t1).2.2
  have h43 := hv.len (hv.2.2.2.2.2.1 _ t1).1
  rw [show (129 : Nat) = 43 * 3 from rfl, ct_mul]
  rw [sm_cut (n := aNc A (tnA A r)) 3 h3 (fun c h1 h2 => ?_)]
  · unfold lackN
    refine sm_cong _ (fun c hc => ?_)
    rw [ct_cut (n := aLen A (aOb A (tnA A r))) 43 h43 (fun f h1 h2 => ?_)]
    · refine ct_cong _ (fun f hf => ?_)
      have e1 : (43 * 3 * r + (43 * c + f)) / 43 / 3 = r := by omega
      have e2 : (43 * 3 * r + (43 * c + f)) / 43 % 3 = c := by omega
      have e3 : (43 * 3 * r + (43 * c + f)) % 43 = f := by omega
      unfold lkW lkG
      rw [e1, e2, e3, decide_eq_true hc, decide_eq_true hf]
      rfl
    · have e1 : (43 * 3 * r + (43 * c + f)) / 43 / 3 = r := by omega
      have e3 : (43 * 3 * r + (43 * c + f)) % 43 = f := by omega
      unfold lkW lkG
      rw [e1, e3, decide_eq_false (show ¬ f < aLen A (aOb A (tnA A r)) by omega), Bool.and_false, Bool.false_and]
  · refine ct_0 43 (fun f hf => ?_)
    have e1 : (43 * 3 * r + (43 * c + f)) / 43 / 3 = r := by omega
    have e2 : (43 * 3 * r + (43 * c + f)) / 43 % 3 = c := by omega
    unfold lkW lkG
    rw [e1, e2, decide_eq_false (show ¬ c < aNc A (tnA A r) by omega), Bool.false_and, Bool.false_and]
theorem lkW_n {A : AS} (hv : VU A) : ∀ r, r ≤ aNo A → ct (lkW A A) (129 * r) = sm (fun k => lackN A (tnA A k)) r := by
  intro r
  induction r with
  | zero => intro _; rfl
  | succ r ih =>
    intro h
    rw [show 129 * (r + 1) = 129 * r + 129 by omega, ct_add, ih (by omega), lkW_r hv (by omega)]
    rfl
theorem lkW_all {A : AS} (hv : VU A) : ct (lkW A A) (129 * aNo A) = allN A (aNo A) := by rw [lkW_n hv _ (Nat.le_refl _), all_rk]
/-- the order of a leaf that is wanted -/
theorem lf_ord {A : AS} {k : Nat} : lfW A k / 43 / 3 = tnA A (k / 43 / 3) ∧ lfW A k / 43 % 3 = k / 43 % 3 ∧ lfW A k % 43 = k % 43 := by
  unfold lfW
  exact LX_o (by omega) (by omega)
theorem lf_lt {A : AS} (hv : VU A) {k : Nat} (hk : k < 129 * aNo A) : lfW A k < 645 ∧ tnA A (k / 43 / 3) < aNo A := by
  have h5 := hv.2.1
  have := (tn_lt (A := A) (show k / 43 / 3 < aNo A by omega)).1
  exact ⟨LX_lt (by omega) (by omega) (by omega), this⟩
/-- which of the wanted leaves are an order's -/
def iGo (g : Nat → Int32) (o m : Nat) : Bool := decide (g m / nI 43 / nI 3 = nI o)
theorem go_iv {A : AS} (hv : VU A) {g : Nat → Int32} (hW : WP A g (129 * aNo A)) {o : Nat} (ho : o < aNo A) {m : Nat} (hm : m < ct (lkW A A) (129 * aNo A)) :
    iGo g o m = decide (aheadN A o (aNo A) ≤ m ∧ m < aheadN A o (aNo A) + lackN A o) := by
  have h5 := hv.2.1
  obtain ⟨k, hk, hp, e⟩ := ct_sur _ _ hm
  have hg := hW k hk hp
  obtain ⟨hl1, hl2⟩ := lf_lt hv hk
  have hr := rk_lt ho
  have e1 : ct (lkW A A) (129 * rkA A o) = aheadN A o (aNo A) := by rw [lkW_n hv _ (by omega), ahead_rk ho]
  have e2 : ct (lkW A A) (129 * (rkA A o + 1)) = aheadN A o (aNo A) + lackN A o := by
    rw [lkW_n hv _ (by omega), ahead_rk ho]
    show _ + lackN A (tnA A (rkA A o)) = _
    rw [tn_rk ho]
  rw [← e2, ← e1, ← e]
  unfold iGo
  rw [hg, pk_div (by omega) (by decide) (by decide), pk_div (by omega) (by decide) (by decide), lf_ord.1, decide_eq_decide, nI_eq (by omega) (by omega), ct_iff hp]
  have h2 := ct_iff (p := lkW A A) (a := 129 * (rkA A o + 1)) hp
  constructor
  · intro z
    have hq : rkA A o = k / 43 / 3 := by rw [← z]; exact (tn_lt (by omega)).2
    refine ⟨by omega, Nat.lt_of_not_le (fun w => ?_)⟩
    have := h2.mp w
    omega
  · rintro ⟨z1, z2⟩
    have h3 : ¬ 129 * (rkA A o + 1) ≤ k := fun w => by
      have := h2.mpr w
      omega
    have : k / 43 / 3 = rkA A o := by omega
    rw [this, tn_rk ho]
theorem go_ct {A : AS} (hv : VU A) {g : Nat → Int32} (hW : WP A g (129 * aNo A)) {o : Nat} (ho : o < aNo A) :
    ct (iGo g o) (ct (lkW A A) (129 * aNo A)) = lackN A o ∧ aheadN A o (aNo A) + lackN A o ≤ ct (lkW A A) (129 * aNo A) := by
  have hr := rk_lt ho
  have e2 : ct (lkW A A) (129 * (rkA A o + 1)) = aheadN A o (aNo A) + lackN A o := by
    rw [lkW_n hv _ (by omega), ahead_rk ho]
    show _ + lackN A (tnA A (rkA A o)) = _
    rw [tn_rk ho]
  have hm := ct_mn (p := lkW A A) (show 129 * (rkA A o + 1) ≤ 129 * aNo A by omega)
  rw [e2] at hm
  refine ⟨?_, hm⟩
  rw [ct_cong _ (fun m h => go_iv hv hW ho h), ct_iv (Nat.le_add_right _ _)]
  omega
/-- the last of an order's among the first m -/
def laG (g : Nat → Int32) (o : Nat) : Nat → Int32
  | 0 => -1
  | m + 1 => if iGo g o m = true then nI m else laG g o m
theorem la_iv {g : Nat → Int32} {o a b : Nat} (hab : a ≤ b) : ∀ n, (∀ m, m < n → iGo g o m = decide (a ≤ m ∧ m < b)) → laG g o n = if a < n ∧ a < b then nI (min n b - 1) else -1 := by
  intro n
  induction n with
  | zero => intro _; rw [if_neg (fun z => absurd z.1 (Nat.not_lt_zero a))]; rfl
  | succ n ih =>
    intro h
    simp only [laG]
    rw [h n (by omega), ih (fun m hm => h m (by omega))]
    by_cases hz : a ≤ n ∧ n < b
    · rw [if_pos (decide_eq_true hz), if_pos ⟨by omega, by omega⟩]
      congr 1
      omega
    · rw [if_neg (fun w => hz (of_decide_eq_true w))]
      by_cases hq : a < n ∧ a < b
      · rw [if_pos hq, if_pos ⟨by omega, hq.2⟩]
        congr 1
        omega
      · rw [if_neg hq, if_neg (fun w => hq ⟨by omega, w.2⟩)]
theorem go_la {A : AS} (hv : VU A) {g : Nat → Int32} (hW : WP A g (129 * aNo A)) {o : Nat} (ho : o < aNo A) :
    laG g o (ct (lkW A A) (129 * aNo A)) = if lackN A o = 0 then -1 else nI (aheadN A o (aNo A) + lackN A o - 1) := by
  obtain ⟨h1, h2⟩ := go_ct hv hW ho
  rw [la_iv (Nat.le_add_right _ _) _ (fun m h => go_iv hv hW ho h)]
  by_cases hz : lackN A o = 0
  · rw [if_pos hz, if_neg (fun w => by omega)]
  · rw [if_neg hz, if_pos ⟨by omega, by omega⟩, Nat.min_eq_right h2]
section MRank
variable {l : Launch} {G : GG} {S S0 S' : PS} {tg tg' : TG} {md : Nat} {V : Nat → Nat} {N : Nat → Int32} {R : Nat → Nat → Int32} {A : AS}
set_option maxRecDepth 100000 in
set_option maxHeartbeats 2000000 in
theorem m_laysRanks (hl : l.stackTraces = false) (hM : MM S tg md V N R) (hv : VU A) (hN5 : N 5 = nI (aNo A)) (hB : mBk (R 1) (R 2) (R 3) (R 4) A) (hO : mOr (R 6) (R 7) (R 8) A) :
    MT l G S yX8_laysRanks cX8_laysRanks 5 none (rmA 2) [va_rf (some md)] (fun v S' => v = none ∧ ∃ g, MX S S' tg md V N (uR R 20 g) ∧ ∀ o, o < aNo A → g (rkA A o) = nI o) (fun _ => False) := by
  have h5 := hv.2.1
  refine MT_of (by decide +kernel) hl rfl (Nat.le_of_ble_eq_true rfl) (fun Z hC hzl hnm hT hQ => ?_)
  change J G Z S 0 0 0 [some (va_rf (some md)), none, none, none, none] []
  have hzs : (zl Z).stackTraces = false := by rw [hzl]; exact hl
  have loop : ∀ (d o : Nat) (S1 : PS) (g : Nat → Int32) (o2 o3 o4 : Option Value), o + d = aNo A → MX S S1 tg md V N (uR R 20 g) → (∀ o', o' < o → g (rkA A o') = nI o') →
      J G Z S1 0 0 2 [some (va_rf (some md)), some (.int (nI o)), o2, o3, o4] [] := by
    intro d
    induction d with
    | zero =>
      intro o S1 g o2 o3 o4 ho h1 hg
      have ho : o = aNo A := by omega
      subst ho
      refine r_iload_n hC dX8_laysRanks_2 rfl rfl ?_
      refine r_aload_n hC dX8_laysRanks_3 rfl rfl ?_
      refine r_getI hC fl_X8_79 rfl dX8_laysRanks_4 (h1.1.kd) ((h1.1.n 5 rfl).trans hN5) ?_
      refine r_icge (tgt := 92) hC dX8_laysRanks_7 (by decide) (fun h7 => ?_) (fun h7 => ?_)
      · refine r_vret hC hQ rfl dX8_laysRanks_92 (Nat.le_of_ble_eq_true rfl) (Nat.le_of_ble_eq_true rfl) ?_
        exact ⟨rfl, g, h1, hg⟩
      · exact absurd (Int32.le_refl _) h7
    | succ d ih =>
      intro o S1 g o2 o3 o4 ho h1 hg
      have hoo : o < aNo A := by omega
      have hM1 := h1.1
      have inner : ∀ (d j : Nat) (o4 : Option Value), j + d = aNo A → J G Z S1 0 0 14 [some (va_rf (some md)), some (.int (nI o)), some (.int (nI (ct (fun i => ahQ A i o) j))), some (.int (nI j)), o4] [] := by
        intro d
        induction d with
        | zero =>
          intro j o4 hj
          have hj : j = aNo A := by omega
          subst hj
          have hrk : ct (fun i => ahQ A i o) (aNo A) < aNo A := rk_lt hoo
          refine r_iload_n hC dX8_laysRanks_14 rfl rfl ?_
          refine r_aload_n hC dX8_laysRanks_15 rfl rfl ?_
          refine r_getI hC fl_X8_79 rfl dX8_laysRanks_16 (hM1.kd) ((hM1.n 5 rfl).trans hN5) ?_
          refine r_icge (tgt := 79) hC dX8_laysRanks_19 (by decide) (fun h19 => ?_) (fun h19 => ?_)
          · refine r_aload_n hC dX8_laysRanks_79 rfl rfl ?_
            refine r_getR  hC fl_X8_60 dX8_laysRanks_80 (hM1.kd) (hM1.r 20 rfl) ?_
            refine r_iload_n hC dX8_laysRanks_83 rfl rfl ?_
            refine r_iload_n hC dX8_laysRanks_84 rfl rfl ?_
            refine r_iast hC dX8_laysRanks_85 (hM1.k 20 rfl) (rfl) (hM1.lt 20 rfl (by show _ < 5; omega)) (hM1.b 20 rfl) ?_
            have h2 := h1.su 20 rfl (ct (fun i => ahQ A i o) (aNo A)) (nI o)
            rw [uR_uR] at h2
            refine r_iinc hC dX8_laysRanks_86 rfl (ii1 _) ?_
            refine r_goto (tgt := 2) hC dX8_laysRanks_89 (by decide) ?_
            refine ih (o + 1) _ (upd g (rkA A o) (nI o)) _ _ _ (by omega) h2 (fun o' ho' => ?_)
            by_cases hz : o' = o
            · rw [hz, pk_us]
            · rw [pk_un (fun w => hz (rk_inj (by omega) hoo w))]
              exact hg o' (by omega)
          · exact absurd (Int32.le_refl _) h19
        | succ d ihj =>
          intro j o4 hj
          have hjj : j < aNo A := by omega
          have hlj := hv.len (hv.2.2.2.2.2.1 j hjj).1
          have hlo := hv.len (hv.2.2.2.2.2.1 o hoo).1
          have tail : ∀ b, ahQ A j o = b → J G Z S1 0 0 58 [some (va_rf (some md)), some (.int (nI o)), some (.int (nI (ct (fun i => ahQ A i o) j))), some (.int (nI j)), o4] [.int (bI b)] := by
            intro b hb
            cases b with
            | true =>
              have := ihj (j + 1) (some (.int (bI true))) (by omega)
              rw [ct_s1 (p := fun i => ahQ A i o) hb] at this
              refine r_istore hC dX8_laysRanks_58 (by decide) ?_
              refine r_iload_n hC dX8_laysRanks_60 rfl rfl ?_
              refine r_iload hC dX8_laysRanks_61 rfl ?_
              refine r_ifeq (tgt := 70) hC dX8_laysRanks_63 (by decide) (fun h63 => ?_) (fun h63 => ?_)
              · exact absurd h63 (by decide)
              · refine r_iconst (v := nI 1) hC dX8_laysRanks_66 (by decide) ?_
                refine r_goto (tgt := 71) hC dX8_laysRanks_67 (by decide) ?_
                refine r_iadd hC dX8_laysRanks_71 ?_
                rw [nI_add]
                refine r_istore_n hC dX8_laysRanks_72 rfl (by decide) ?_
                refine r_iinc hC dX8_laysRanks_73 rfl (ii1 _) ?_
                refine r_goto (tgt := 14) hC dX8_laysRanks_76 (by decide) ?_
                exact this
            | false =>
              have := ihj (j + 1) (some (.int (bI false))) (by omega)
              rw [ct_s0 (p := fun i => ahQ A i o) hb] at this
              refine r_istore hC dX8_laysRanks_58 (by decide) ?_
              refine r_iload_n hC dX8_laysRanks_60 rfl rfl ?_
              refine r_iload hC dX8_laysRanks_61 rfl ?_
              refine r_ifeq (tgt := 70) hC dX8_laysRanks_63 (by decide) (fun h63 => ?_) (fun h63 => ?_)
              · refine r_iconst (v := nI 0) hC dX8_laysRanks_70 (by decide) ?_
                refine r_iadd hC dX8_laysRanks_71 ?_
                rw [nI_add]
                refine r_istore_n hC dX8_laysRanks_72 rfl (by decide) ?_
                refine r_iinc hC dX8_laysRanks_73 rfl (ii1 _) ?_
                refine r_goto (tgt := 14) hC dX8_laysRanks_76 (by decide) ?_
                exact this
              · exact absurd rfl h63
          refine r_iload_n hC dX8_laysRanks_14 rfl rfl ?_
          refine r_aload_n hC dX8_laysRanks_15 rfl rfl ?_
          refine r_getI hC fl_X8_79 rfl dX8_laysRanks_16 (hM1.kd) ((hM1.n 5 rfl).trans hN5) ?_
          refine r_icge (tgt := 79) hC dX8_laysRanks_19 (by decide) (fun h19 => ?_) (fun h19 => ?_)
          · exact absurd ((nI_leI (by omega) (by omega)).mp h19) (by omega)
          · refine r_aload_n hC dX8_laysRanks_22 rfl rfl ?_
            refine r_iload_n hC dX8_laysRanks_23 rfl rfl ?_
            refine r_cV (as := [.int (nI j)]) hC (m_size hzs hM1 hv hB hO hjj) cs_X8_size q_1091 q_1093 q_63 (hM1.kd) (by decide) rfl dX8_laysRanks_24 rfl rfl ⟨Nat.le_of_ble_eq_true rfl, Nat.le_of_ble_eq_true rfl⟩ (Nat.le_of_ble_eq_true rfl) ⟨Nat.le_of_ble_eq_true rfl, Nat.le_of_ble_eq_true rfl⟩ (fun v24 S24 p24 => ?_) (fun _ x => x.elim)
            obtain ⟨rfl, e24⟩ := p24
            rw [e24]
            refine r_aload_n hC dX8_laysRanks_27 rfl rfl ?_
            refine r_iload_n hC dX8_laysRanks_28 rfl rfl ?_
            refine r_cV (as := [.int (nI o)]) hC (m_size hzs hM1 hv hB hO hoo) cs_X8_size q_1091 q_1093 q_63 (hM1.kd) (by decide) rfl dX8_laysRanks_29 rfl rfl ⟨Nat.le_of_ble_eq_true rfl, Nat.le_of_ble_eq_true rfl⟩ (Nat.le_of_ble_eq_true rfl) ⟨Nat.le_of_ble_eq_true rfl, Nat.le_of_ble_eq_true rfl⟩ (fun v29 S29 p29 => ?_) (fun _ x => x.elim)
            obtain ⟨rfl, e29⟩ := p29
            rw [e29]
            refine r_icgt (tgt := 53) hC dX8_laysRanks_32 (by decide) (fun h32 => ?_) (fun h32 => ?_)
            · have hgt := (nI_ltI (by omega) (by omega)).mp h32
              refine r_iconst (v := nI 1) hC dX8_laysRanks_53 (by decide) ?_
              refine r_goto (tgt := 58) hC dX8_laysRanks_54 (by decide) ?_
              exact tail true (ahQ_iff.mpr (Or.inl hgt))
            · have hgt : ¬ aLen A (aOb A o) < aLen A (aOb A j) := fun z => h32 ((nI_ltI (by omega) (by omega)).mpr z)
              refine r_aload_n hC dX8_laysRanks_35 rfl rfl ?_
              refine r_iload_n hC dX8_laysRanks_36 rfl rfl ?_
              refine r_cV (as := [.int (nI j)]) hC (m_size hzs hM1 hv hB hO hjj) cs_X8_size q_1091 q_1093 q_63 (hM1.kd) (by decide) rfl dX8_laysRanks_37 rfl rfl ⟨Nat.le_of_ble_eq_true rfl, Nat.le_of_ble_eq_true rfl⟩ (Nat.le_of_ble_eq_true rfl) ⟨Nat.le_of_ble_eq_true rfl, Nat.le_of_ble_eq_true rfl⟩ (fun v37 S37 p37 => ?_) (fun _ x => x.elim)
              obtain ⟨rfl, e37⟩ := p37
              rw [e37]
              refine r_aload_n hC dX8_laysRanks_40 rfl rfl ?_
              refine r_iload_n hC dX8_laysRanks_41 rfl rfl ?_
              refine r_cV (as := [.int (nI o)]) hC (m_size hzs hM1 hv hB hO hoo) cs_X8_size q_1091 q_1093 q_63 (hM1.kd) (by decide) rfl dX8_laysRanks_42 rfl rfl ⟨Nat.le_of_ble_eq_true rfl, Nat.le_of_ble_eq_true rfl⟩ (Nat.le_of_ble_eq_true rfl) ⟨Nat.le_of_ble_eq_true rfl, Nat.le_of_ble_eq_true rfl⟩ (fun v42 S42 p42 => ?_) (fun _ x => x.elim)
              obtain ⟨rfl, e42⟩ := p42
              rw [e42]
              have fls : ¬ (aLen A (aOb A j) = aLen A (aOb A o) ∧ j < o) → ahQ A j o = false := by
                intro hn
                cases hq : ahQ A j o with
                | false => rfl
                | true => exact absurd (ahQ_iff.mp hq) (fun w => w.elim hgt hn)
              refine r_icne (tgt := 57) hC dX8_laysRanks_45 (by decide) (fun h45 => ?_) (fun h45 => ?_)
              · refine r_iconst (v := nI 0) hC dX8_laysRanks_57 (by decide) ?_
                exact tail false (fls (fun z => h45 (by rw [z.1])))
              · have heq : aLen A (aOb A j) = aLen A (aOb A o) := (nI_eq (by omega) (by omega)).mp h45
                refine r_iload_n hC dX8_laysRanks_48 rfl rfl ?_
                refine r_iload_n hC dX8_laysRanks_49 rfl rfl ?_
                refine r_icge (tgt := 57) hC dX8_laysRanks_50 (by decide) (fun h50 => ?_) (fun h50 => ?_)
                · refine r_iconst (v := nI 0) hC dX8_laysRanks_57 (by decide) ?_
                  exact tail false (fls (fun z => absurd ((nI_leI (by omega) (by omega)).mp h50) (by omega)))
                · have hjo : j < o := Nat.lt_of_not_le (fun z => h50 (nI_le z (by omega)))
                  refine r_iconst (v := nI 1) hC dX8_laysRanks_53 (by decide) ?_
                  refine r_goto (tgt := 58) hC dX8_laysRanks_54 (by decide) ?_
                  exact tail true (ahQ_iff.mpr (Or.inr ⟨heq, hjo⟩))
      refine r_iload_n hC dX8_laysRanks_2 rfl rfl ?_
      refine r_aload_n hC dX8_laysRanks_3 rfl rfl ?_
      refine r_getI hC fl_X8_79 rfl dX8_laysRanks_4 (hM1.kd) ((hM1.n 5 rfl).trans hN5) ?_
      refine r_icge (tgt := 92) hC dX8_laysRanks_7 (by decide) (fun h7 => ?_) (fun h7 => ?_)
      · exact absurd ((nI_leI (by omega) (by omega)).mp h7) (by omega)
      · refine r_iconst (v := nI 0) hC dX8_laysRanks_10 (by decide) ?_
        refine r_istore_n hC dX8_laysRanks_11 rfl (by decide) ?_
        refine r_iconst (v := nI 0) hC dX8_laysRanks_12 (by decide) ?_
        refine r_istore_n hC dX8_laysRanks_13 rfl (by decide) ?_
        exact inner (aNo A) 0 _ (by omega)
  refine r_iconst (v := nI 0) hC dX8_laysRanks_0 (by decide) ?_
  refine r_istore_n hC dX8_laysRanks_1 rfl (by decide) ?_
  refine loop (aNo A) 0 S (R 20) none none none (by omega) ?_ (fun o' h => absurd h (Nat.not_lt_zero o'))
  rw [uR_id rfl]
  exact MX.rf hM
set_option maxRecDepth 100000 in
set_option maxHeartbeats 4000000 in
theorem m_laysWanted (hl : l.stackTraces = false) (hM : MM S tg md V N R) (hv : VU A) (hMC : MC N R A) :
    MT l G S yX8_laysWanted cX8_laysWanted 6 none (rmA 3) [va_rf (some md)] (fun v S' => v = none ∧ ∃ g20 g, MX S S' tg md V (uN N 22 (nI (ct (lkW A A) (129 * aNo A)))) (uR (uR R 20 g20) 21 g) ∧ WP A g (129 * aNo A)) (fun _ => False) := by
  have h5 := hv.2.1
  obtain ⟨⟨-, hN5, -⟩, hB, hO, hLv, -⟩ := hMC
  refine MT_of (by decide +kernel) hl rfl (Nat.le_of_ble_eq_true rfl) (fun Z hC hzl hnm hT hQ => ?_)
  change J G Z S 0 0 0 [some (va_rf (some md)), none, none, none, none, none] []
  have hzs : (zl Z).stackTraces = false := by rw [hzl]; exact hl
  refine r_aload_n hC dX8_laysWanted_0 rfl rfl ?_
  refine r_iconst (v := nI 0) hC dX8_laysWanted_1 (by decide) ?_
  refine r_putI hC fl_X8_128 rfl (by decide) dX8_laysWanted_2 (hM.kd) (fun h => absurd h (by decide)) ?_
  have h1 := (MX.rf hM).sn 22 rfl (nI 0)
  refine r_aload_n hC dX8_laysWanted_5 rfl rfl ?_
  refine r_cV (as := []) hC (m_laysRanks hzs h1.1 hv hN5 hB hO) cs_X8_laysRanks q_1087 q_1089 q_62 (h1.1.kd) (by decide) rfl dX8_laysWanted_6 rfl rfl ⟨Nat.le_of_ble_eq_true rfl, Nat.le_of_ble_eq_true rfl⟩ (Nat.le_of_ble_eq_true rfl) ⟨Nat.le_of_ble_eq_true rfl, Nat.le_of_ble_eq_true rfl⟩ (fun v6 S6 p6 => ?_) (fun _ x => x.elim)
  obtain ⟨rfl, g20, h2, hg20⟩ := p6
  have hg20k : ∀ k, k < aNo A → g20 k = nI (tnA A k) := by
    intro k hk
    obtain ⟨t1, t2⟩ := tn_lt hk
    have := hg20 _ t1
    rwa [t2] at this
  have loop : ∀ (d k : Nat) (S1 : PS) (g : Nat → Int32) (o2 o3 o4 o5 : Option Value), k + d = 129 * aNo A → MX S S1 tg md V (uN N 22 (nI (ct (lkW A A) k))) (uR (uR R 20 g20) 21 g) → WP A g k →
      J G Z S1 0 0 11 [some (va_rf (some md)), some (.int (nI k)), o2, o3, o4, o5] [] := by
    intro d
    induction d with
    | zero =>
      intro k S1 g o2 o3 o4 o5 hk h1 hw
      have hk : k = 129 * aNo A := by omega
      subst hk
      refine r_iload_n hC dX8_laysWanted_11 rfl rfl ?_
      refine r_aload_n hC dX8_laysWanted_12 rfl rfl ?_
      refine r_getI hC fl_X8_79 rfl dX8_laysWanted_13 (h1.1.kd) ((h1.1.n 5 rfl).trans hN5) ?_
      refine r_iconst (v := nI 3) hC dX8_laysWanted_16 (by decide) ?_
      refine r_imul hC dX8_laysWanted_17 ?_
      rw [pk_mul]
      refine r_bipush (v := nI 43) hC dX8_laysWanted_18 (by decide) ?_
      refine r_imul hC dX8_laysWanted_20 ?_
      rw [pk_mul]
      refine r_icge (tgt := 138) hC dX8_laysWanted_21 (by decide) (fun h21 => ?_) (fun h21 => ?_)
      · refine r_vret hC hQ rfl dX8_laysWanted_138 (Nat.le_of_ble_eq_true rfl) (Nat.le_of_ble_eq_true rfl) ?_
        exact ⟨rfl, g20, g, h1, hw⟩
      · exact absurd (nI_le (by omega) (by omega)) h21
    | succ d ih =>
      intro k S1 g o2 o3 o4 o5 hk h1 hw
      have hM1 := h1.1
      obtain ⟨o, eo⟩ : ∃ o, o = tnA A (k / 43 / 3) := ⟨_, rfl⟩
      obtain ⟨c, ec⟩ : ∃ c, c = k / 43 % 3 := ⟨_, rfl⟩
      obtain ⟨f, ef⟩ : ∃ f, f = k % 43 := ⟨_, rfl⟩
      have hr : k / 43 / 3 < aNo A := by omega
      have hoo : o < aNo A := by rw [eo]; exact (tn_lt hr).1
      have hc3 : c < 3 := by omega
      have hf43 : f < 43 := by omega
      have hlx := LX_lt (o := o) (c := c) (f := f) (by omega) hc3 hf43
      have hlW : lkW A A k = (decide (c < aNc A o) && decide (f < aLen A (aOb A o)) && lackQ A o c f) := by unfold lkW lkG; rw [← eo, ← ec, ← ef]
      have hct := ct_le (lkW A A) k
      obtain ⟨hob, -, h3⟩ := hv.2.2.2.2.2.1 o hoo
      have h43 := hv.len hob
      have nxt : ∀ S2 g' o5', MX S S2 tg md V (uN N 22 (nI (ct (lkW A A) (k + 1)))) (uR (uR R 20 g20) 21 g') → WP A g' (k + 1) →
          J G Z S2 0 0 132 [some (va_rf (some md)), some (.int (nI k)), some (.int (nI o)), some (.int (nI c)), some (.int (nI f)), o5'] [] := by
        intro S2 g' o5' h2 hw2
        refine r_iinc hC dX8_laysWanted_132 rfl (ii1 _) ?_
        refine r_goto (tgt := 11) hC dX8_laysWanted_135 (by decide) ?_
        exact ih (k + 1) S2 g' _ _ _ _ (by omega) h2 hw2
      have same : lkW A A k = false → MX S S1 tg md V (uN N 22 (nI (ct (lkW A A) (k + 1)))) (uR (uR R 20 g20) 21 g) ∧ WP A g (k + 1) := by
        intro hq
        rw [ct_s0 hq]
        refine ⟨h1, fun k' hk' hp => ?_⟩
        by_cases hz : k' = k
        · rw [hz, hq] at hp
          exact absurd hp (by decide)
        · exact hw k' (by omega) hp
      have no : lkW A A k = false → J G Z S1 0 0 82 [some (va_rf (some md)), some (.int (nI k)), some (.int (nI o)), some (.int (nI c)), some (.int (nI f)), o5] [] := by
        intro hq
        refine r_iconst (v := nI 0) hC dX8_laysWanted_82 (by decide) ?_
        refine r_istore hC dX8_laysWanted_83 (by decide) ?_
        refine r_iload hC dX8_laysWanted_85 rfl ?_
        refine r_ifeq (tgt := 132) hC dX8_laysWanted_87 (by decide) (fun h87 => ?_) (fun h87 => ?_)
        · exact nxt S1 g _ (same hq).1 (same hq).2
        · exact absurd rfl h87
      have hgo : g20 (k / 43 / 3) = nI o := by rw [hg20k _ hr, eo]
      refine r_iload_n hC dX8_laysWanted_11 rfl rfl ?_
      refine r_aload_n hC dX8_laysWanted_12 rfl rfl ?_
      refine r_getI hC fl_X8_79 rfl dX8_laysWanted_13 (hM1.kd) ((hM1.n 5 rfl).trans hN5) ?_
      refine r_iconst (v := nI 3) hC dX8_laysWanted_16 (by decide) ?_
      refine r_imul hC dX8_laysWanted_17 ?_
      rw [pk_mul]
      refine r_bipush (v := nI 43) hC dX8_laysWanted_18 (by decide) ?_
      refine r_imul hC dX8_laysWanted_20 ?_
      rw [pk_mul]
      refine r_icge (tgt := 138) hC dX8_laysWanted_21 (by decide) (fun h21 => ?_) (fun h21 => ?_)
      · exact absurd ((nI_leI (by omega) (by omega)).mp h21) (by omega)
      · refine r_aload_n hC dX8_laysWanted_24 rfl rfl ?_
        refine r_getR  hC fl_X8_60 dX8_laysWanted_25 (hM1.kd) (hM1.r 20 rfl) ?_
        refine r_iload_n hC dX8_laysWanted_28 rfl rfl ?_
        refine r_bipush (v := nI 43) hC dX8_laysWanted_29 (by decide) ?_
        refine r_idiv hC dX8_laysWanted_31 (by decide) ?_
        rw [pk_div (by omega) (by decide) (by decide)]
        refine r_iconst (v := nI 3) hC dX8_laysWanted_32 (by decide) ?_
        refine r_idiv hC dX8_laysWanted_33 (by decide) ?_
        rw [pk_div (by omega) (by decide) (by decide)]
        refine r_iald hC dX8_laysWanted_34 (hM1.k 20 rfl) (rfl) (hM1.lt 20 rfl (by show _ < 5; omega)) (hM1.b 20 rfl) ((congrFun (hM1.a 20 rfl) _).trans (hgo)) ?_
        refine r_istore_n hC dX8_laysWanted_35 rfl (by decide) ?_
        refine r_iload_n hC dX8_laysWanted_36 rfl rfl ?_
        refine r_bipush (v := nI 43) hC dX8_laysWanted_37 (by decide) ?_
        refine r_idiv hC dX8_laysWanted_39 (by decide) ?_
        rw [pk_div (by omega) (by decide) (by decide)]
        refine r_iconst (v := nI 3) hC dX8_laysWanted_40 (by decide) ?_
        refine r_irem hC dX8_laysWanted_41 (by decide) ?_
        rw [pk_rem (by omega) (by decide) (by decide), ← ec]
        refine r_istore_n hC dX8_laysWanted_42 rfl (by decide) ?_
        refine r_iload_n hC dX8_laysWanted_43 rfl rfl ?_
        refine r_bipush (v := nI 43) hC dX8_laysWanted_44 (by decide) ?_
        refine r_irem hC dX8_laysWanted_46 (by decide) ?_
        rw [pk_rem (by omega) (by decide) (by decide), ← ef]
        refine r_istore hC dX8_laysWanted_47 (by decide) ?_
        refine r_iload_n hC dX8_laysWanted_49 rfl rfl ?_
        refine r_aload_n hC dX8_laysWanted_50 rfl rfl ?_
        refine r_getR  hC fl_X8_25 dX8_laysWanted_51 (hM1.kd) (hM1.r 7 rfl) ?_
        refine r_iload_n hC dX8_laysWanted_54 rfl rfl ?_
        refine r_iald hC dX8_laysWanted_55 (hM1.k 7 rfl) (rfl) (hM1.lt 7 rfl (by show _ < 5; omega)) (hM1.b 7 rfl) ((congrFun (hM1.a 7 rfl) _).trans ((hO o hoo).2.1)) ?_
        refine r_icge (tgt := 82) hC dX8_laysWanted_56 (by decide) (fun h56 => ?_) (fun h56 => ?_)
        · have : ¬ c < aNc A o := fun z => absurd ((nI_leI (by omega) (by omega)).mp h56) (by omega)
          exact no (by rw [hlW, decide_eq_false this]; rfl)
        · have hcc : c < aNc A o := Nat.lt_of_not_le (fun z => h56 (nI_le z (by omega)))
          refine r_iload hC dX8_laysWanted_59 rfl ?_
          refine r_aload_n hC dX8_laysWanted_61 rfl rfl ?_
          refine r_iload_n hC dX8_laysWanted_62 rfl rfl ?_
          refine r_cV (as := [.int (nI o)]) hC (m_size hzs hM1 hv hB hO hoo) cs_X8_size q_1091 q_1093 q_63 (hM1.kd) (by decide) rfl dX8_laysWanted_63 rfl rfl ⟨Nat.le_of_ble_eq_true rfl, Nat.le_of_ble_eq_true rfl⟩ (Nat.le_of_ble_eq_true rfl) ⟨Nat.le_of_ble_eq_true rfl, Nat.le_of_ble_eq_true rfl⟩ (fun v63 S63 p63 => ?_) (fun _ x => x.elim)
          obtain ⟨rfl, e63⟩ := p63
          rw [e63]
          refine r_icge (tgt := 82) hC dX8_laysWanted_66 (by decide) (fun h66 => ?_) (fun h66 => ?_)
          · have : ¬ f < aLen A (aOb A o) := fun z => absurd ((nI_leI (by omega) (by omega)).mp h66) (by omega)
            exact no (by rw [hlW, decide_eq_false this, Bool.and_false]; rfl)
          · have hff : f < aLen A (aOb A o) := Nat.lt_of_not_le (fun z => h66 (nI_le z (by omega)))
            have hlW2 : lkW A A k = lackQ A o c f := by rw [hlW, decide_eq_true hcc, decide_eq_true hff]; rfl
            obtain ⟨w1, w2, w3⟩ := hLv o hoo c hc3 f hf43
            have hvl := hv.2.2.2.2.2.2.2.2.2.2 o hoo c f hf43
            refine r_aload_n hC dX8_laysWanted_69 rfl rfl ?_
            refine r_iload_n hC dX8_laysWanted_70 rfl rfl ?_
            refine r_iload_n hC dX8_laysWanted_71 rfl rfl ?_
            refine r_cV (as := [.int (nI o), .int (nI c)]) hC (m_isBoundCopy hzs hM1 (show o < 5 by omega) hc3) cs_X8_isBoundCopy q_1033 q_1035 q_56 (hM1.kd) (by decide) rfl dX8_laysWanted_72 rfl rfl ⟨Nat.le_of_ble_eq_true rfl, Nat.le_of_ble_eq_true rfl⟩ (Nat.le_of_ble_eq_true rfl) ⟨Nat.le_of_ble_eq_true rfl, Nat.le_of_ble_eq_true rfl⟩ (fun v72 S72 p72 => ?_) (fun _ x => x.elim)
            obtain ⟨rfl, e72⟩ := p72
            rw [e72, show (uR (uR R 20 g20) 21 g) 8 = R 8 from rfl, bd_ne hv hO hoo hc3]
            refine r_ifne (tgt := 82) hC dX8_laysWanted_75 (by decide) (fun h75 => ?_) (fun h75 => ?_)
            · have hb : aBd A o c ≠ 0 := fun z => by
                rw [decide_eq_false (fun w => w z)] at h75
                exact h75 rfl
              exact no (by rw [hlW2]; unfold lackQ; rw [decide_eq_false hb]; rfl)
            · have hb : aBd A o c = 0 := Classical.byContradiction (fun z => by
                rw [decide_eq_true z] at h75
                exact absurd h75 (by decide))
              refine r_iconst (v := nI 1) hC dX8_laysWanted_78 (by decide) ?_
              refine r_goto (tgt := 83) hC dX8_laysWanted_79 (by decide) ?_
              refine r_istore hC dX8_laysWanted_83 (by decide) ?_
              refine r_iload hC dX8_laysWanted_85 rfl ?_
              refine r_ifeq (tgt := 132) hC dX8_laysWanted_87 (by decide) (fun h87 => ?_) (fun h87 => ?_)
              · exact absurd h87 (by decide)
              · refine r_aload_n hC dX8_laysWanted_90 rfl rfl ?_
                refine r_getR  hC fl_X8_31 dX8_laysWanted_91 (hM1.kd) (hM1.r 9 rfl) ?_
                refine r_iload_n hC dX8_laysWanted_94 rfl rfl ?_
                refine r_iload_n hC dX8_laysWanted_95 rfl rfl ?_
                refine r_iload hC dX8_laysWanted_96 rfl ?_
                refine r_cS (as := [.int (nI o), .int (nI c), .int (nI f)]) hC (m_leafAt hzs o c f) cs_X8_leafAt q_1072 q_1073 dX8_laysWanted_98 rfl rfl ⟨Nat.le_of_ble_eq_true rfl, Nat.le_of_ble_eq_true rfl⟩ (Nat.le_of_ble_eq_true rfl) ⟨Nat.le_of_ble_eq_true rfl, Nat.le_of_ble_eq_true rfl⟩ (fun v98 S98 p98 => ?_) (fun _ x => x.elim)
                obtain ⟨rfl, e98⟩ := p98
                rw [e98]
                refine r_iald hC dX8_laysWanted_101 (hM1.k 9 rfl) (rfl) (hM1.lt 9 rfl (by show _ < 645; exact hlx)) (hM1.b 9 rfl) ((congrFun (hM1.a 9 rfl) _).trans (w1)) ?_
                refine r_iconst (v := (-1)) hC dX8_laysWanted_102 (by decide) ?_
                refine r_icne (tgt := 132) hC dX8_laysWanted_103 (by decide) (fun h103 => ?_) (fun h103 => ?_)
                · have hh : aHl A o c f = 1 := Classical.byContradiction (fun z => h103 (if_neg z))
                  have hq : lkW A A k = false := by rw [hlW2]; unfold lackQ; rw [decide_eq_false (show ¬ aHl A o c f = 0 by omega), Bool.and_false]
                  exact nxt S1 g _ (same hq).1 (same hq).2
                · have hh : aHl A o c f ≠ 1 := fun z => by
                    rw [if_pos z] at h103
                    exact (hvl.2 z).2.2 h103
                  have hq : lkW A A k = true := by
                    rw [hlW2]
                    unfold lackQ
                    rw [decide_eq_true hb, decide_eq_true (show aHl A o c f = 0 by omega)]
                    rfl
                  refine r_aload_n hC dX8_laysWanted_106 rfl rfl ?_
                  refine r_getR  hC fl_X8_63 dX8_laysWanted_107 (hM1.kd) (hM1.r 21 rfl) ?_
                  refine r_aload_n hC dX8_laysWanted_110 rfl rfl ?_
                  refine r_getI hC fl_X8_128 rfl dX8_laysWanted_111 (hM1.kd) (hM1.n 22 rfl) ?_
                  refine r_iload_n hC dX8_laysWanted_114 rfl rfl ?_
                  refine r_iload_n hC dX8_laysWanted_115 rfl rfl ?_
                  refine r_iload hC dX8_laysWanted_116 rfl ?_
                  refine r_cS (as := [.int (nI o), .int (nI c), .int (nI f)]) hC (m_leafAt hzs o c f) cs_X8_leafAt q_1072 q_1073 dX8_laysWanted_118 rfl rfl ⟨Nat.le_of_ble_eq_true rfl, Nat.le_of_ble_eq_true rfl⟩ (Nat.le_of_ble_eq_true rfl) ⟨Nat.le_of_ble_eq_true rfl, Nat.le_of_ble_eq_true rfl⟩ (fun v118 S118 p118 => ?_) (fun _ x => x.elim)
                  obtain ⟨rfl, e118⟩ := p118
                  rw [e118]
                  refine r_iast hC dX8_laysWanted_121 (hM1.k 21 rfl) (rfl) (hM1.lt 21 rfl (by show _ < 645; omega)) (hM1.b 21 rfl) ?_
                  have h7 := h1.su 21 rfl (ct (lkW A A) k) (nI (LX o c f))
                  rw [uR_uR] at h7
                  refine r_aload_n hC dX8_laysWanted_122 rfl rfl ?_
                  refine r_dup hC dX8_laysWanted_123 rfl ?_
                  refine r_getI hC fl_X8_128 rfl dX8_laysWanted_124 (h7.1.kd) ((h7.1.n 22 rfl).trans (uN_s _ _ _)) ?_
                  refine r_iconst (v := nI 1) hC dX8_laysWanted_127 (by decide) ?_
                  refine r_iadd hC dX8_laysWanted_128 ?_
                  rw [nI_add]
                  refine r_putI hC fl_X8_128 rfl (by decide) dX8_laysWanted_129 (h7.1.kd) (fun h => absurd h (by decide)) ?_
                  have h8 := h7.sn 22 rfl (nI (ct (lkW A A) k + 1))
                  rw [uN_uN] at h8
                  refine nxt _ (upd g (ct (lkW A A) k) (nI (LX o c f))) _ (by rw [ct_s1 hq]; exact h8) (fun k' hk' hp => ?_)
                  by_cases hz : k' = k
                  · rw [hz]
                    refine pk_us.trans ?_
                    unfold lfW
                    rw [← eo, ← ec, ← ef]
                  · have hlt := ct_si hp (show k' < k by omega)
                    refine (pk_un (by omega)).trans ?_
                    exact hw k' (by omega) hp
  refine r_iconst (v := nI 0) hC dX8_laysWanted_9 (by decide) ?_
  refine r_istore_n hC dX8_laysWanted_10 rfl (by decide) ?_
  refine loop (129 * aNo A) 0 _ (R 21) none none none none (by omega) ?_ (fun k' h => absurd h (Nat.not_lt_zero k'))
  have h3 := h1.tr h2
  rw [show uR (uR R 20 g20) 21 (R 21) = uR R 20 g20 from uR_id rfl]
  exact h3
set_option maxRecDepth 100000 in
theorem m_lackingOf (hl : l.stackTraces = false) (hM : MM S tg md V N R) (hv : VU A) (hN : N 22 = nI (ct (lkW A A) (129 * aNo A))) (hW : WP A (R 21) (129 * aNo A)) {o : Nat} (ho : o < aNo A) :
    MT l G S yX8_lackingOf cX8_lackingOf 4 (some .int) (rmA 0) [va_rf (some md), .int (nI o)] (fun v S' => v = some (.int (nI (lackN A o))) ∧ S' = S) (fun _ => False) := by
  have h5 := hv.2.1
  have hct := ct_le (lkW A A) (129 * aNo A)
  obtain ⟨nn, en⟩ : ∃ nn, nn = ct (lkW A A) (129 * aNo A) := ⟨_, rfl⟩
  rw [← en] at hN hct
  refine MT_of (by decide +kernel) hl rfl (Nat.le_of_ble_eq_true rfl) (fun Z hC hzl hnm hT hQ => ?_)
  change J G Z S 0 0 0 [some (va_rf (some md)), some (.int (nI o)), none, none] []
  have loop : ∀ (d m : Nat), m + d = nn → J G Z S 0 0 4 [some (va_rf (some md)), some (.int (nI o)), some (.int (nI (ct (iGo (R 21) o) m))), some (.int (nI m))] [] := by
    intro d
    induction d with
    | zero =>
      intro m hm
      have hm : m = nn := by omega
      subst hm
      refine r_iload_n hC dX8_lackingOf_4 rfl rfl ?_
      refine r_aload_n hC dX8_lackingOf_5 rfl rfl ?_
      refine r_getI hC fl_X8_128 rfl dX8_lackingOf_6 (hM.kd) ((hM.n 22 rfl).trans hN) ?_
      refine r_icge (tgt := 41) hC dX8_lackingOf_9 (by decide) (fun h9 => ?_) (fun h9 => ?_)
      · rw [en, (go_ct hv hW ho).1]
        refine r_iload_n hC dX8_lackingOf_41 rfl rfl ?_
        refine r_iret hC hQ rfl dX8_lackingOf_42 (Nat.le_of_ble_eq_true rfl) (Nat.le_of_ble_eq_true rfl) ?_
        exact ⟨rfl, rfl⟩
      · exact absurd (Int32.le_refl _) h9
    | succ d ih =>
      intro m hm
      refine r_iload_n hC dX8_lackingOf_4 rfl rfl ?_
      refine r_aload_n hC dX8_lackingOf_5 rfl rfl ?_
      refine r_getI hC fl_X8_128 rfl dX8_lackingOf_6 (hM.kd) ((hM.n 22 rfl).trans hN) ?_
      refine r_icge (tgt := 41) hC dX8_lackingOf_9 (by decide) (fun h9 => ?_) (fun h9 => ?_)
      · exact absurd ((nI_leI (by omega) (by omega)).mp h9) (by omega)
      · skip
        have := ih (m + 1) (by omega)
        refine r_iload_n hC dX8_lackingOf_12 rfl rfl ?_
        refine r_aload_n hC dX8_lackingOf_13 rfl rfl ?_
        refine r_getR  hC fl_X8_63 dX8_lackingOf_14 (hM.kd) (hM.r 21 rfl) ?_
        refine r_iload_n hC dX8_lackingOf_17 rfl rfl ?_
        refine r_iald hC dX8_lackingOf_18 (hM.k 21 rfl) (rfl) (hM.lt 21 rfl (by show _ < 645; omega)) (hM.b 21 rfl) (congrFun (hM.a 21 rfl) _) ?_
        refine r_bipush (v := nI 43) hC dX8_lackingOf_19 (by decide) ?_
        refine r_idiv hC dX8_lackingOf_21 (by decide) ?_
        refine r_iconst (v := nI 3) hC dX8_lackingOf_22 (by decide) ?_
        refine r_idiv hC dX8_lackingOf_23 (by decide) ?_
        refine r_iload_n hC dX8_lackingOf_24 rfl rfl ?_
        refine r_icne (tgt := 32) hC dX8_lackingOf_25 (by decide) (fun h25 => ?_) (fun h25 => ?_)
        · rw [ct_s0 (decide_eq_false h25)] at this
          refine r_iconst (v := nI 0) hC dX8_lackingOf_32 (by decide) ?_
          refine r_iadd hC dX8_lackingOf_33 ?_
          rw [nI_add]
          refine r_istore_n hC dX8_lackingOf_34 rfl (by decide) ?_
          refine r_iinc hC dX8_lackingOf_35 rfl (ii1 _) ?_
          refine r_goto (tgt := 4) hC dX8_lackingOf_38 (by decide) ?_
          exact this
        · rw [ct_s1 (decide_eq_true h25)] at this
          refine r_iconst (v := nI 1) hC dX8_lackingOf_28 (by decide) ?_
          refine r_goto (tgt := 33) hC dX8_lackingOf_29 (by decide) ?_
          refine r_iadd hC dX8_lackingOf_33 ?_
          rw [nI_add]
          refine r_istore_n hC dX8_lackingOf_34 rfl (by decide) ?_
          refine r_iinc hC dX8_lackingOf_35 rfl (ii1 _) ?_
          refine r_goto (tgt := 4) hC dX8_lackingOf_38 (by decide) ?_
          exact this
  refine r_iconst (v := nI 0) hC dX8_lackingOf_0 (by decide) ?_
  refine r_istore_n hC dX8_lackingOf_1 rfl (by decide) ?_
  refine r_iconst (v := nI 0) hC dX8_lackingOf_2 (by decide) ?_
  refine r_istore_n hC dX8_lackingOf_3 rfl (by decide) ?_
  exact loop nn 0 (by omega)
set_option maxRecDepth 100000 in
theorem m_lacking (hl : l.stackTraces = false) (hM : MM S tg md V N R) (hv : VU A) (hMC : MC N R A) (x : Int32) :
    MT l G S yX8_lacking cX8_lacking 2 (some .int) (rmA 4) [va_rf (some md), .int x] (EM S tg md V (oLacking A x)) (fun _ => False) := by
  have h5 := hv.2.1
  refine MT_of (by decide +kernel) hl rfl (Nat.le_of_ble_eq_true rfl) (fun Z hC hzl hnm hT hQ => ?_)
  change J G Z S 0 0 0 [some (va_rf (some md)), some (.int x)] []
  have hzs : (zl Z).stackTraces = false := by rw [hzl]; exact hl
  refine r_aload_n hC dX8_lacking_0 rfl rfl ?_
  refine r_aload_n hC dX8_lacking_1 rfl rfl ?_
  refine r_iload_n hC dX8_lacking_2 rfl rfl ?_
  refine r_cV (as := [.int x]) hC (m_isOrder hzs hM x h5 hMC.1.2.1) cs_X8_isOrder q_1079 q_1081 q_60 (hM.kd) (by decide) rfl dX8_lacking_3 rfl rfl ⟨Nat.le_of_ble_eq_true rfl, Nat.le_of_ble_eq_true rfl⟩ (Nat.le_of_ble_eq_true rfl) ⟨Nat.le_of_ble_eq_true rfl, Nat.le_of_ble_eq_true rfl⟩ (fun v3 S3 p3 => ?_) (fun _ x => x.elim)
  obtain ⟨rfl, e3⟩ := p3
  rw [e3]
  cases hx : ixb x (aNo A) with
  | false =>
    refine r_ifeq (tgt := 13) hC dX8_lacking_6 (by decide) (fun h6 => ?_) (fun h6 => ?_)
    · refine r_iconst (v := nI 1) hC dX8_lacking_13 (by decide) ?_
      refine r_cV (as := [.int (nI 1)]) hC (m_goes hzs hM (nI 1)) cs_X8_goes q_1010 q_1012 q_52 (hM.kd) (by decide) rfl dX8_lacking_14 rfl rfl ⟨Nat.le_of_ble_eq_true rfl, Nat.le_of_ble_eq_true rfl⟩ (Nat.le_of_ble_eq_true rfl) ⟨Nat.le_of_ble_eq_true rfl, Nat.le_of_ble_eq_true rfl⟩ (fun v14 S14 p14 => ?_) (fun _ x => x.elim)
      obtain ⟨rfl, h1⟩ := p14
      refine r_ifne (tgt := 22) hC dX8_lacking_17 (by decide) (fun h17 => ?_) (fun h17 => ?_)
      · exact absurd (by decide) h17
      · refine r_iconst (v := nI 0) hC dX8_lacking_20 (by decide) ?_
        refine r_iret hC hQ rfl dX8_lacking_21 (Nat.le_of_ble_eq_true rfl) (Nat.le_of_ble_eq_true rfl) ?_
        exact EM.thr h1 hMC ⟨1, by unfold oLacking; rw [if_neg (by rw [hx]; decide)], by decide, rfl⟩ ⟨_, rfl⟩
    · exact absurd rfl h6
  | true =>
    obtain ⟨o, ho, rfl, hoo⟩ := ixb_of (by omega) hx
    refine r_ifeq (tgt := 13) hC dX8_lacking_6 (by decide) (fun h6 => ?_) (fun h6 => ?_)
    · exact absurd h6 (by decide)
    · refine r_iconst (v := nI 0) hC dX8_lacking_9 (by decide) ?_
      refine r_goto (tgt := 14) hC dX8_lacking_10 (by decide) ?_
      refine r_cV (as := [.int (nI 0)]) hC (m_goes hzs hM (nI 0)) cs_X8_goes q_1010 q_1012 q_52 (hM.kd) (by decide) rfl dX8_lacking_14 rfl rfl ⟨Nat.le_of_ble_eq_true rfl, Nat.le_of_ble_eq_true rfl⟩ (Nat.le_of_ble_eq_true rfl) ⟨Nat.le_of_ble_eq_true rfl, Nat.le_of_ble_eq_true rfl⟩ (fun v14 S14 p14 => ?_) (fun _ x => x.elim)
      obtain ⟨rfl, h1⟩ := p14
      refine r_ifne (tgt := 22) hC dX8_lacking_17 (by decide) (fun h17 => ?_) (fun h17 => ?_)
      · skip
        refine r_aload_n hC dX8_lacking_22 rfl rfl ?_
        refine r_cV (as := []) hC (m_laysWanted hzs h1.1 hv (hMC.n23 _)) cs_X8_laysWanted q_1083 q_1085 q_61 (h1.1.kd) (by decide) rfl dX8_lacking_23 rfl rfl ⟨Nat.le_of_ble_eq_true rfl, Nat.le_of_ble_eq_true rfl⟩ (Nat.le_of_ble_eq_true rfl) ⟨Nat.le_of_ble_eq_true rfl, Nat.le_of_ble_eq_true rfl⟩ (fun v23 S23 p23 => ?_) (fun _ x => x.elim)
        obtain ⟨rfl, g20, g, h2, hw⟩ := p23
        refine r_aload_n hC dX8_lacking_26 rfl rfl ?_
        refine r_iload_n hC dX8_lacking_27 rfl rfl ?_
        refine r_cV (as := [.int (nI o)]) hC (m_lackingOf hzs h2.1 hv (uN_s _ _ _) hw ho) cs_X8_lackingOf q_1095 q_1097 q_64 (h2.1.kd) (by decide) rfl dX8_lacking_28 rfl rfl ⟨Nat.le_of_ble_eq_true rfl, Nat.le_of_ble_eq_true rfl⟩ (Nat.le_of_ble_eq_true rfl) ⟨Nat.le_of_ble_eq_true rfl, Nat.le_of_ble_eq_true rfl⟩ (fun v28 S28 p28 => ?_) (fun _ x => x.elim)
        obtain ⟨rfl, e28⟩ := p28
        rw [e28]
        refine r_iret hC hQ rfl dX8_lacking_31 (Nat.le_of_ble_eq_true rfl) (Nat.le_of_ble_eq_true rfl) ?_
        have e : oLacking A (nI o) = (0, nI (lackN A o), A) := by unfold oLacking; rw [if_pos hx, hoo]
        rw [e]
        exact EM.ok (h1.tr h2) hMC rfl rfl rfl
      · exact absurd h17 (by decide)
set_option maxRecDepth 100000 in
theorem m_waits (hl : l.stackTraces = false) (hM : MM S tg md V N R) (hv : VU A) (hMC : MC N R A) (x : Int32) :
    MT l G S yX8_waits cX8_waits 4 (some .int) (rmA 4) [va_rf (some md), .int x] (EM S tg md V (oWaits A x)) (fun _ => False) := by
  have h5 := hv.2.1
  refine MT_of (by decide +kernel) hl rfl (Nat.le_of_ble_eq_true rfl) (fun Z hC hzl hnm hT hQ => ?_)
  change J G Z S 0 0 0 [some (va_rf (some md)), some (.int x), none, none] []
  have hzs : (zl Z).stackTraces = false := by rw [hzl]; exact hl
  refine r_aload_n hC dX8_waits_0 rfl rfl ?_
  refine r_aload_n hC dX8_waits_1 rfl rfl ?_
  refine r_iload_n hC dX8_waits_2 rfl rfl ?_
  refine r_cV (as := [.int x]) hC (m_isOrder hzs hM x h5 hMC.1.2.1) cs_X8_isOrder q_1079 q_1081 q_60 (hM.kd) (by decide) rfl dX8_waits_3 rfl rfl ⟨Nat.le_of_ble_eq_true rfl, Nat.le_of_ble_eq_true rfl⟩ (Nat.le_of_ble_eq_true rfl) ⟨Nat.le_of_ble_eq_true rfl, Nat.le_of_ble_eq_true rfl⟩ (fun v3 S3 p3 => ?_) (fun _ x => x.elim)
  obtain ⟨rfl, e3⟩ := p3
  rw [e3]
  cases hx : ixb x (aNo A) with
  | false =>
    refine r_ifeq (tgt := 13) hC dX8_waits_6 (by decide) (fun h6 => ?_) (fun h6 => ?_)
    · refine r_iconst (v := nI 1) hC dX8_waits_13 (by decide) ?_
      refine r_cV (as := [.int (nI 1)]) hC (m_goes hzs hM (nI 1)) cs_X8_goes q_1010 q_1012 q_52 (hM.kd) (by decide) rfl dX8_waits_14 rfl rfl ⟨Nat.le_of_ble_eq_true rfl, Nat.le_of_ble_eq_true rfl⟩ (Nat.le_of_ble_eq_true rfl) ⟨Nat.le_of_ble_eq_true rfl, Nat.le_of_ble_eq_true rfl⟩ (fun v14 S14 p14 => ?_) (fun _ x => x.elim)
      obtain ⟨rfl, h1⟩ := p14
      refine r_ifne (tgt := 22) hC dX8_waits_17 (by decide) (fun h17 => ?_) (fun h17 => ?_)
      · exact absurd (by decide) h17
      · refine r_iconst (v := nI 0) hC dX8_waits_20 (by decide) ?_
        refine r_iret hC hQ rfl dX8_waits_21 (Nat.le_of_ble_eq_true rfl) (Nat.le_of_ble_eq_true rfl) ?_
        exact EM.thr h1 hMC ⟨1, by unfold oWaits; rw [if_neg (by rw [hx]; decide)], by decide, rfl⟩ ⟨_, rfl⟩
    · exact absurd rfl h6
  | true =>
    obtain ⟨o, ho, rfl, hoo⟩ := ixb_of (by omega) hx
    refine r_ifeq (tgt := 13) hC dX8_waits_6 (by decide) (fun h6 => ?_) (fun h6 => ?_)
    · exact absurd h6 (by decide)
    · refine r_iconst (v := nI 0) hC dX8_waits_9 (by decide) ?_
      refine r_goto (tgt := 14) hC dX8_waits_10 (by decide) ?_
      refine r_cV (as := [.int (nI 0)]) hC (m_goes hzs hM (nI 0)) cs_X8_goes q_1010 q_1012 q_52 (hM.kd) (by decide) rfl dX8_waits_14 rfl rfl ⟨Nat.le_of_ble_eq_true rfl, Nat.le_of_ble_eq_true rfl⟩ (Nat.le_of_ble_eq_true rfl) ⟨Nat.le_of_ble_eq_true rfl, Nat.le_of_ble_eq_true rfl⟩ (fun v14 S14 p14 => ?_) (fun _ x => x.elim)
      obtain ⟨rfl, h1⟩ := p14
      refine r_ifne (tgt := 22) hC dX8_waits_17 (by decide) (fun h17 => ?_) (fun h17 => ?_)
      rotate_left
      · exact absurd h17 (by decide)
      · skip
        refine r_aload_n hC dX8_waits_22 rfl rfl ?_
        refine r_cV (as := []) hC (m_laysWanted hzs h1.1 hv (hMC.n23 _)) cs_X8_laysWanted q_1083 q_1085 q_61 (h1.1.kd) (by decide) rfl dX8_waits_23 rfl rfl ⟨Nat.le_of_ble_eq_true rfl, Nat.le_of_ble_eq_true rfl⟩ (Nat.le_of_ble_eq_true rfl) ⟨Nat.le_of_ble_eq_true rfl, Nat.le_of_ble_eq_true rfl⟩ (fun v23 S23 p23 => ?_) (fun _ x => x.elim)
        obtain ⟨rfl, g20, g, h2, hw⟩ := p23
        have hct := ct_le (lkW A A) (129 * aNo A)
        have hla := go_la hv hw ho
        have hgc := (go_ct hv hw ho).2
        obtain ⟨nn, en⟩ : ∃ nn, nn = ct (lkW A A) (129 * aNo A) := ⟨_, rfl⟩
        rw [← en] at h2 hct hla hgc
        have hM2 := h2.1
        have loop : ∀ (d m : Nat), m + d = nn → J G Z S23 0 0 30 [some (va_rf (some md)), some (.int (nI o)), some (.int (laG g o m)), some (.int (nI m))] [] := by
          intro d
          induction d with
          | zero =>
            intro m hm
            have hm : m = nn := by omega
            subst hm
            have e : oWaits A (nI o) = (0, nI (if lackN A o = 0 then 0 else (aheadN A o (aNo A) + lackN A o + 7) / 8), A) := by unfold oWaits; rw [if_pos hx, hoo]
            refine r_iload_n hC dX8_waits_30 rfl rfl ?_
            refine r_aload_n hC dX8_waits_31 rfl rfl ?_
            refine r_getI hC fl_X8_128 rfl dX8_waits_32 (hM2.kd) ((hM2.n 22 rfl).trans (uN_s _ _ _)) ?_
            refine r_icge (tgt := 65) hC dX8_waits_35 (by decide) (fun h35 => ?_) (fun h35 => ?_)
            · rw [hla]
              by_cases hz : lackN A o = 0
              · rw [if_pos hz]
                rw [if_pos hz] at e
                refine r_iload_n hC dX8_waits_65 rfl rfl ?_
                refine r_iconst (v := (-1)) hC dX8_waits_66 (by decide) ?_
                refine r_icne (tgt := 74) hC dX8_waits_67 (by decide) (fun h67 => ?_) (fun h67 => ?_)
                · exact absurd rfl h67
                · refine r_iconst (v := nI 0) hC dX8_waits_70 (by decide) ?_
                  refine r_goto (tgt := 80) hC dX8_waits_71 (by decide) ?_
                  refine r_iret hC hQ rfl dX8_waits_80 (Nat.le_of_ble_eq_true rfl) (Nat.le_of_ble_eq_true rfl) ?_
                  rw [e]
                  exact EM.ok (h1.tr h2) hMC rfl rfl rfl
              · rw [if_neg hz]
                rw [if_neg hz] at e
                have hpos := nI_pos (n := aheadN A o (aNo A) + lackN A o - 1) (by omega)
                refine r_iload_n hC dX8_waits_65 rfl rfl ?_
                refine r_iconst (v := (-1)) hC dX8_waits_66 (by decide) ?_
                refine r_icne (tgt := 74) hC dX8_waits_67 (by decide) (fun h67 => ?_) (fun h67 => ?_)
                · refine r_iload_n hC dX8_waits_74 rfl rfl ?_
                  refine r_bipush (v := nI 8) hC dX8_waits_75 (by decide) ?_
                  refine r_idiv hC dX8_waits_77 (by decide) ?_
                  rw [pk_div (by omega) (by decide) (by decide)]
                  refine r_iconst (v := nI 1) hC dX8_waits_78 (by decide) ?_
                  refine r_iadd hC dX8_waits_79 ?_
                  rw [nI_add]
                  refine r_iret hC hQ rfl dX8_waits_80 (Nat.le_of_ble_eq_true rfl) (Nat.le_of_ble_eq_true rfl) ?_
                  rw [e]
                  refine EM.ok (h1.tr h2) hMC rfl rfl ?_
                  show nI _ = nI _
                  congr 1
                  omega
                · refine absurd h67 (fun w => ?_)
                  rw [w] at hpos
                  exact hpos (by decide)
            · exact absurd (Int32.le_refl _) h35
          | succ d ih =>
            intro m hm
            refine r_iload_n hC dX8_waits_30 rfl rfl ?_
            refine r_aload_n hC dX8_waits_31 rfl rfl ?_
            refine r_getI hC fl_X8_128 rfl dX8_waits_32 (hM2.kd) ((hM2.n 22 rfl).trans (uN_s _ _ _)) ?_
            refine r_icge (tgt := 65) hC dX8_waits_35 (by decide) (fun h35 => ?_) (fun h35 => ?_)
            · exact absurd ((nI_leI (by omega) (by omega)).mp h35) (by omega)
            · skip
              have := ih (m + 1) (by omega)
              simp only [laG] at this
              refine r_aload_n hC dX8_waits_38 rfl rfl ?_
              refine r_getR  hC fl_X8_63 dX8_waits_39 (hM2.kd) (hM2.r 21 rfl) ?_
              refine r_iload_n hC dX8_waits_42 rfl rfl ?_
              refine r_iald hC dX8_waits_43 (hM2.k 21 rfl) (rfl) (hM2.lt 21 rfl (by show _ < 645; omega)) (hM2.b 21 rfl) (congrFun (hM2.a 21 rfl) _) ?_
              refine r_bipush (v := nI 43) hC dX8_waits_44 (by decide) ?_
              refine r_idiv hC dX8_waits_46 (by decide) ?_
              refine r_iconst (v := nI 3) hC dX8_waits_47 (by decide) ?_
              refine r_idiv hC dX8_waits_48 (by decide) ?_
              refine r_iload_n hC dX8_waits_49 rfl rfl ?_
              refine r_icne (tgt := 57) hC dX8_waits_50 (by decide) (fun h50 => ?_) (fun h50 => ?_)
              · rw [if_neg (show ¬ iGo g o m = true from fun w => h50 (of_decide_eq_true w))] at this
                refine r_iload_n hC dX8_waits_57 rfl rfl ?_
                refine r_istore_n hC dX8_waits_58 rfl (by decide) ?_
                refine r_iinc hC dX8_waits_59 rfl (ii1 _) ?_
                refine r_goto (tgt := 30) hC dX8_waits_62 (by decide) ?_
                exact this
              · rw [if_pos (show iGo g o m = true from decide_eq_true h50)] at this
                refine r_iload_n hC dX8_waits_53 rfl rfl ?_
                refine r_goto (tgt := 58) hC dX8_waits_54 (by decide) ?_
                refine r_istore_n hC dX8_waits_58 rfl (by decide) ?_
                refine r_iinc hC dX8_waits_59 rfl (ii1 _) ?_
                refine r_goto (tgt := 30) hC dX8_waits_62 (by decide) ?_
                exact this
        refine r_iconst (v := (-1)) hC dX8_waits_26 (by decide) ?_
        refine r_istore_n hC dX8_waits_27 rfl (by decide) ?_
        refine r_iconst (v := nI 0) hC dX8_waits_28 (by decide) ?_
        refine r_istore_n hC dX8_waits_29 rfl (by decide) ?_
        exact loop nn 0 (by omega)
end MRank

