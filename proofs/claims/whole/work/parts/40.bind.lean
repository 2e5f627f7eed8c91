/-! ===== binding ===== -/
def allA (A : AS) (o c n : Nat) : Bool := allB (fun f => decide (aHl A o c f = 1) && decide (aTr A (aLs A o c f) ≠ 0)) n
def lsA (A : AS) (o c : Nat) : Nat → Nat
  | 0 => 15
  | f + 1 => if aTr A (aLs A o c f) - 1 < lsA A o c f then aTr A (aLs A o c f) - 1 else lsA A o c f
def bndQ (A : AS) (o c f : Nat) : Bool := decide (aHl A o c f = 1) && decide (lsA A o c (aLen A (aOb A o)) + aTol A + 1 < aTr A (aLs A o c f))
def bndN (A : AS) (o c : Nat) : Nat := ct (bndQ A o c) 43
def bndS (A : AS) (o c : Nat) : Nat → Nat → Nat → Bool := fun o' c' f => decide (o' = o) && decide (c' = c) && decide (f < 43) && bndQ A o c f
def oBind (A : AS) (o c : Int32) : OP :=
  if ixb o (aNo A) = true ∧ ixb c (aNc A (ii o)) = true then
    (if aBd A (ii o) (ii c) ≠ 0 ∨ allA A (ii o) (ii c) (aLen A (aOb A (ii o))) = false then (2, 0, A)
    else if bndN A (ii o) (ii c) = 0 then (0, nI (aLen A (aOb A (ii o))), uD A 4 (ii o) (ii c) 0 (aLen A (aOb A (ii o)) + 1))
    else (0, -nI (bndN A (ii o) (ii c)), uD (spoA A (bndS A (ii o) (ii c))) 0 4 0 0 (aSp A + bndN A (ii o) (ii c)))) else (1, 0, A)
theorem lsA_le (A : AS) (o c : Nat) : ∀ n, lsA A o c n ≤ 15 := by
  intro n
  induction n with
  | zero => exact Nat.le_refl _
  | succ n ih =>
    simp only [lsA]
    split <;> omega
theorem bndS_iff {A : AS} {o c o' c' f : Nat} : bndS A o c o' c' f = true ↔ o' = o ∧ c' = c ∧ f < 43 ∧ bndQ A o c f = true := by
  unfold bndS
  simp only [Bool.and_eq_true, decide_eq_true_eq, and_assoc]
theorem ct_p {p : Nat → Bool} : ∀ n, ct p n = 0 → ∀ i, i < n → p i = false := by
  intro n
  induction n with
  | zero => intro _ i h; exact absurd h (Nat.not_lt_zero i)
  | succ n ih =>
    intro h i hi
    simp only [ct] at h
    rcases Nat.lt_or_ge i n with z | z
    · exact ih (by omega) i z
    · have : i = n := by omega
      subst this
      cases hp : p i with
      | false => rfl
      | true =>
        rw [hp] at h
        simp at h
section BindA
variable {l : Launch} {G : GG} {S S' : PS} {tg : TG} {W : WT} {A : AS} {t nl : Nat}
theorem CLn.lf (h : CLn G S tg W A t nl) {o c f : Nat} (hoo : o < aNo A) (hcc : c < aNc A o) (hf : f < 43) :
    (aHl A o c f = 0 ∧ pB S (wLv W o c) f = none) ∨ (aHl A o c f = 1 ∧ ∃ y, pB S (wLv W o c) f = some y ∧ lfT S y = trV (aTr A (aLs A o c f)) ∧ aTr A (aLs A o c f) ≤ 16) := by
  obtain ⟨hv, hb, ho, hs, hr⟩ := h
  rcases ((ho.2.2.2 o hoo).2.2.2.2 c hcc).2.2.2 f hf with z | ⟨d0, y, hy, d1, d2, d3, -⟩
  · exact Or.inl z
  · refine Or.inr ⟨d0, y, hy, ?_, (hv.2.2.2.2.2.2.2.2.1 _ d2).2.1⟩
    unfold lfT lfS
    rw [d3]
    exact (hs.2.2.2 _ d2).2.2.2.2.2.2.2.1
theorem CLn.all (h : CLn G S tg W A t nl) {o c : Nat} (hoo : o < aNo A) (hcc : c < aNc A o) : ∀ n, n ≤ 43 → allB (cutB S (wLv W o c)) n = allA A o c n := by
  intro n
  unfold allA
  induction n with
  | zero => intro _; rfl
  | succ n ih =>
    intro hn
    simp only [allB, ih (by omega)]
    congr 1
    unfold cutB
    rcases h.lf hoo hcc (f := n) (by omega) with ⟨z1, z2⟩ | ⟨z1, y, hy, z2, z3⟩
    · rw [z2, z1]; rfl
    · rw [hy, z1]
      show decide (lfT S y ≠ -1) = _
      rw [z2]
      simp only [decide_true, Bool.true_and]
      exact decide_eq_decide.mpr (trV_ne z3)
theorem allA_lt {o c : Nat} : ∀ n, allA A o c n = true → ∀ f, f < n → aHl A o c f = 1 ∧ aTr A (aLs A o c f) ≠ 0 := by
  intro n h f hf
  have := (allB_iff _ n).mp h f hf
  simpa only [Bool.and_eq_true, decide_eq_true_eq] using this
theorem CLn.lst (h : CLn G S tg W A t nl) {o c : Nat} (hoo : o < aNo A) (hcc : c < aNc A o) : ∀ n, n ≤ 43 → (∀ f, f < n → aHl A o c f = 1 ∧ aTr A (aLs A o c f) ≠ 0) → lstT S (wLv W o c) n = nI (lsA A o c n) := by
  intro n
  induction n with
  | zero => intro _ _; rfl
  | succ n ih =>
    intro hn ha
    have hi := ih (by omega) (fun f hf => ha f (by omega))
    have hle := lsA_le A o c n
    obtain ⟨a1, a2⟩ := ha n (by omega)
    rcases h.lf hoo hcc (f := n) (by omega) with ⟨z1, z2⟩ | ⟨z1, y, hy, z2, z3⟩
    · omega
    · simp only [lstT, hy, hi, z2, lsA]
      unfold trV
      rw [if_neg a2]
      by_cases hlt : aTr A (aLs A o c n) - 1 < lsA A o c n
      · rw [if_pos hlt, if_pos (nI_lt hlt (by omega))]
      · rw [if_neg hlt, if_neg (nI_nlt (by omega) (by omega))]
theorem CLn.bd (h : CLn G S tg W A t nl) (hg : gE G ∉ pL S) {o c n : Nat} (hoo : o < aNo A) (hcc : c < aNc A o) (hn : n ≤ 43) :
    CLn G (sI (sI S 33 (wCp W o c) 1) 34 (wCp W o c) (nI n)) tg W (uD A 4 o c 0 (n + 1)) t nl := by
  obtain ⟨hv, hb, ho, hs, hr⟩ := h
  have hx : Ex S (sI (sI S 33 (wCp W o c) 1) 34 (wCp W o c) (nI n)) (fun f y => f = 33 ∨ f = 34) x2 x0 x0 := Ex.tI (Ex.putI (Or.inl rfl)) (Or.inl (Or.inr rfl))
  have e : ∀ k y, k ≠ 33 → k ≠ 34 → pI (sI (sI S 33 (wCp W o c) 1) 34 (wCp W o c) (nI n)) k y = pI S k y := fun k y h1 h2 => (I_f _ _ _ _ h2).trans (I_f _ _ _ _ h1)
  obtain ⟨v1, v2, v3, v4, v5, v6, v7, v8, v9, v10, v11⟩ := id hv
  have h3 := (v6 o hoo).2.2
  refine ⟨⟨v1, v2, v3, v4, v5, v6, fun o' ho' c' => ?_, v8, v9, v10, v11⟩, hb.ex hv hx (fun _ _ => rfl) hg (fun f y h z => by omega) (fun _ _ _ z => z) (fun _ _ _ z => z) (fun z => by omega) (fun z => z) (fun _ _ _ z => z), ?_,
    CLs.cA (A := A) (hs.ex hv ho.lv hx (fun _ _ => rfl) hg (fun f y h z => by omega) (fun _ _ _ z => z) (fun _ _ z => z) (fun _ _ _ z => z) (fun z => by omega) (fun z => z)) rfl rfl rfl rfl rfl rfl,
    hr.ex hx (fun _ _ => rfl) (fun f y h z => by omega) (fun _ _ _ z => z) (fun _ _ z => z)⟩
  · show (if o' = o ∧ c' = c ∧ (0 : Nat) = 0 then n + 1 else aBd A o' c') ≤ 44
    split
    · omega
    · exact v7 o' ho' c'
  · obtain ⟨lb, tlb⟩ := ho.1.exT ho.2.2.1 hx (fun _ _ => rfl) hg (fun z => by omega) (fun z => z) (fun _ _ _ z => z)
    refine ⟨lb, ho.2.1, tlb, fun o' ho' => ?_⟩
    obtain ⟨⟨ko, rb, kb, rl, hls, k3, hcp, hinj⟩, g2, g3, g4, g5⟩ := ho.2.2.2 o' ho'
    have h3' := (v6 o' ho').2.2
    have hsame : ∀ c', c' < aNc A o' → wCp W o' c' = wCp W o c → o' = o ∧ c' = c := by
      intro c' hc' ee
      have t1 := (g5 c' hc').1
      have t2 := ((ho.2.2.2 o hoo).2.2.2.2 c hcc).1
      rw [ee] at t1
      omega
    have v33 : ∀ c', c' < aNc A o' → pI (sI (sI S 33 (wCp W o c) 1) 34 (wCp W o c) (nI n)) 33 (wCp W o' c') = if o' = o ∧ c' = c then 1 else pI S 33 (wCp W o' c') := by
      intro c' hc'
      rw [I_f _ _ _ _ (by decide)]
      by_cases hz : o' = o ∧ c' = c
      · rw [if_pos hz, hz.1, hz.2]
        exact I_s S 33 _ _
      · rw [if_neg hz]
        exact I_a S 33 33 _ (fun z => hz (hsame c' hc' z))
    obtain ⟨lb2, tlb2⟩ := hls.exT g4 hx (fun _ _ => rfl) hg (fun z => by omega) (fun z => z) (fun _ _ _ z => z)
    refine ⟨⟨ko, rb, kb, rl, lb2, k3, fun i hi => ?_, hinj⟩, (e _ _ (by decide) (by decide)).trans g2, g3, tlb2, fun c' hc' => ?_⟩
    · obtain ⟨kc, rv, kv, nv, hf, hb01⟩ := hcp i hi
      refine ⟨kc, rv, kv, nv, fun f hf1 y hy => ⟨(hf f hf1 y hy).1, (e _ _ (by decide) (by decide)).trans (hf f hf1 y hy).2⟩, ?_⟩
      rw [v33 i hi]
      split
      · exact Or.inr rfl
      · exact hb01
    · obtain ⟨t1, t2, c3, c4⟩ := g5 c' hc'
      refine ⟨t1, t2, ?_, fun f hf => ?_⟩
      · rw [v33 c' hc']
        show ((if o' = o ∧ c' = c ∧ (0 : Nat) = 0 then n + 1 else aBd A o' c') = 0 ∧ _) ∨ ((if o' = o ∧ c' = c ∧ (0 : Nat) = 0 then n + 1 else aBd A o' c') ≠ 0 ∧ _ ∧ _ = nI ((if o' = o ∧ c' = c ∧ (0 : Nat) = 0 then n + 1 else aBd A o' c') - 1))
        by_cases hz : o' = o ∧ c' = c
        · rw [if_pos ⟨hz.1, hz.2, rfl⟩, if_pos hz, hz.1, hz.2]
          exact Or.inr ⟨by omega, rfl, I_s _ 34 _ _⟩
        · rw [if_neg (fun z => hz ⟨z.1, z.2.1⟩), if_neg hz]
          rw [show pI (sI (sI S 33 (wCp W o c) 1) 34 (wCp W o c) (nI n)) 34 (wCp W o' c') = pI S 34 (wCp W o' c') from (I_a _ 34 34 _ (fun z => hz (hsame c' hc' z))).trans (I_f _ _ _ _ (by decide))]
          exact c3
      · rcases c4 f hf with z | ⟨d0, y, hy, d1, d2, d3, d4, d5, d6, d7⟩
        · exact Or.inl z
        · exact Or.inr ⟨d0, y, hy, d1.trans (e _ _ (by decide) (by decide)).symm, d2, d3, (e _ _ (by decide) (by decide)).trans d4, (e _ _ (by decide) (by decide)).trans d5, (e _ _ (by decide) (by decide)).trans d6, d7⟩
set_option maxRecDepth 100000 in
set_option maxHeartbeats 2000000 in
theorem c_bind (hl : l.stackTraces = false) (h : CL G S tg W A t) (o c : Int32) :
    MT l G S yX7_bind cX7_bind 7 (some .int) (rmT 3 3 18) [va_rf (some t), .int o, .int c] (EN G S tg t (oBind A o c)) (XO A (oBind A o c) [eIO, eIS]) := by
  obtain ⟨⟨hv, hb, ho, hs, hr⟩, hF⟩ := id h
  have h5 := hv.2.1
  refine MT_of (by decide +kernel) hl rfl (Nat.le_of_ble_eq_true rfl) (fun Z hC hzl hnm hT hQ => ?_)
  change J G Z S 0 0 0 [some (va_rf (some t)), some (.int o), some (.int c), none, none, none, none] []
  have hzs : (zl Z).stackTraces = false := by rw [hzl]; exact hl
  refine r_hge hC (fun hg => ?_)
  refine r_aload_n hC dX7_bind_0 rfl rfl ?_
  refine r_iload_n hC dX7_bind_1 rfl rfl ?_
  refine r_cV (as := [.int o]) hC (c_orderNumbered hzs hr.1 hr.2.2.1 ho.1 h5 o) cs_X7_orderNumbered q_592 q_594 q_18 (hr.1) (by decide) rfl dX7_bind_2 rfl rfl ⟨Nat.le_of_ble_eq_true rfl, Nat.le_of_ble_eq_true rfl⟩ (Nat.le_of_ble_eq_true rfl) ⟨Nat.le_of_ble_eq_true rfl, Nat.le_of_ble_eq_true rfl⟩ (fun v2 S2 p2 => ?_) (fun E2 x2 => ?_)
  · obtain ⟨j, hj, rfl, rfl, e2⟩ := p2
    rw [e2]
    obtain ⟨g1, g2, g3, g4, g5⟩ := id (ho.2.2.2 j hj)
    have q1 : ixb (nI j) (aNo A) = true := ixb_t hj (by omega)
    have q2 : ii (nI j) = j := ii_n (by omega)
    have h3 := (hv.2.2.2.2.2.1 j hj).2.2
    have hob := (hv.2.2.2.2.2.1 j hj).1
    have h43 := hv.len hob
    have hbk := hb.2.2.2 _ hob
    refine r_astore_n hC dX7_bind_5 rfl (by decide) ?_
    refine r_aload_n hC dX7_bind_6 rfl rfl ?_
    refine r_iload_n hC dX7_bind_7 rfl rfl ?_
    refine r_cS (as := [va_rf (some (wOo W j)), .int c]) hC (c_copyNumbered hzs g1.1 g1.2.2.2.1 g1.2.2.2.2.1 h3 c) cs_X7_copyNumbered q_846 q_847 dX7_bind_8 rfl rfl ⟨Nat.le_of_ble_eq_true rfl, Nat.le_of_ble_eq_true rfl⟩ (Nat.le_of_ble_eq_true rfl) ⟨Nat.le_of_ble_eq_true rfl, Nat.le_of_ble_eq_true rfl⟩ (fun v8 S8 p8 => ?_) (fun E8 x8 => ?_)
    · obtain ⟨k, hk, rfl, rfl, e8⟩ := p8
      rw [e8]
      have hcp := g1.2.2.2.2.2.2.1 k hk
      have hc1 := g5 k hk
      have q3 : ixb (nI k) (aNc A j) = true := ixb_t hk (by omega)
      have q4 : ii (nI k) = k := ii_n (by omega)
      have thr : (aBd A j k ≠ 0 ∨ allA A j k (aLen A (aOb A j)) = false) → J G Z S 2 12 40 [some (va_rf (some t)), some (.int (nI j)), some (.int (nI k)), some (va_rf (some (wOo W j))), some (va_rf (some (wCp W j k))), some (.int (nI (aLen A (aOb A j)))), none] [] := fun hz =>
        r_throw (i := 10) (E := eIS) (names := ["java/lang/RuntimeException", "java/lang/Exception"]) hC hQ hT ⟨1, by unfold oBind; rw [q2, if_pos ⟨q1, q3⟩, q4, if_pos hz], rfl⟩ (by decide +kernel) (by decide +kernel) q_241 q_83 rfl hat_60 hot_60 dX7_bind_40 dX7_bind_43 dX7_bind_44 dX7_bind_46 dX7_bind_49 (Nat.le_of_ble_eq_true rfl) (Nat.le_of_ble_eq_true rfl) (Nat.le_of_ble_eq_true rfl) (Nat.le_of_ble_eq_true rfl)
      refine r_astore hC dX7_bind_11 (by decide) ?_
      refine r_aload_n hC dX7_bind_13 rfl rfl ?_
      refine r_getR  hC fl_X7_210 dX7_bind_14 (g1.1) (g1.2.1) ?_
      refine r_getI hC fl_X7_106 rfl dX7_bind_17 (g1.2.2.1) (hbk.2.2.2.2.2.2.2.1) ?_
      refine r_istore hC dX7_bind_20 (by decide) ?_
      refine r_aload hC dX7_bind_22 rfl ?_
      refine r_getI hC fl_X7_214 rfl dX7_bind_24 (hcp.1) (rfl) ?_
      refine r_ifne (tgt := 40) hC dX7_bind_27 (by decide) (fun h27 => ?_) (fun h27 => ?_)
      · have : aBd A j k ≠ 0 := fun z => by
          rcases hc1.2.2.1 with ⟨-, w⟩ | ⟨w, -⟩
          · exact h27 w
          · exact w z
        exact thr (Or.inl this)
      · have hb0 : aBd A j k = 0 := by
          rcases hc1.2.2.1 with ⟨w, -⟩ | ⟨-, w, -⟩
          · exact w
          · rw [w] at h27
            exact absurd h27 (by decide)
        refine r_aload hC dX7_bind_30 rfl ?_
        refine r_iload hC dX7_bind_32 rfl ?_
        refine r_cVN (as := [.int (nI (aLen A (aOb A j)))]) hC (c_isAllCut hzs hcp h43) cs_X1_isAllCut q_850 q_852 q_42 (hcp.1) (by decide) rfl dX7_bind_34 rfl rfl ⟨Nat.le_of_ble_eq_true rfl, Nat.le_of_ble_eq_true rfl⟩ (Nat.le_of_ble_eq_true rfl) ⟨Nat.le_of_ble_eq_true rfl, Nat.le_of_ble_eq_true rfl⟩ (fun v34 S34 p34 => ?_) (fun _ x => x.elim)
        obtain ⟨rfl, e34⟩ := p34
        rw [e34, h.1.all hj hk _ h43]
        refine r_ifne (tgt := 50) hC dX7_bind_37 (by decide) (fun h37 => ?_) (fun h37 => ?_)
        rotate_left
        · have : allA A j k (aLen A (aOb A j)) = false := by
            cases z : allA A j k (aLen A (aOb A j)) with
            | false => rfl
            | true => rw [z] at h37; exact absurd h37 (by decide)
          exact thr (Or.inr this)
        · have hal : allA A j k (aLen A (aOb A j)) = true := by
            cases z : allA A j k (aLen A (aOb A j)) with
            | true => rfl
            | false => rw [z] at h37; exact absurd rfl h37
          have hall := allA_lt (A := A) _ hal
          have hls := lsA_le A j k (aLen A (aOb A j))
          have htol := hv.2.2.2.1
          refine r_aload hC dX7_bind_50 rfl ?_
          refine r_aload hC dX7_bind_52 rfl ?_
          refine r_iload hC dX7_bind_54 rfl ?_
          refine r_cVN (as := [.int (nI (aLen A (aOb A j)))]) hC (c_leastTrim hzs hcp h43) cs_X1_leastTrim q_859 q_861 q_44 (hcp.1) (by decide) rfl dX7_bind_56 rfl rfl ⟨Nat.le_of_ble_eq_true rfl, Nat.le_of_ble_eq_true rfl⟩ (Nat.le_of_ble_eq_true rfl) ⟨Nat.le_of_ble_eq_true rfl, Nat.le_of_ble_eq_true rfl⟩ (fun v56 S56 p56 => ?_) (fun _ x => x.elim)
          obtain ⟨rfl, e56⟩ := p56
          rw [e56, h.1.lst hj hk _ h43 hall]
          refine r_aload_n hC dX7_bind_59 rfl rfl ?_
          refine r_getI hC fl_X7_45 rfl dX7_bind_60 (hr.1) (hr.2.2.2.2.2.2.2.2.1) ?_
          refine r_iadd hC dX7_bind_63 ?_
          rw [nI_add]
          refine r_cVN (as := [.int (nI (lsA A j k (aLen A (aOb A j)) + aTol A))]) hC (c_spoilAbove hzs hcp (nI (lsA A j k (aLen A (aOb A j)) + aTol A))) cs_X1_spoilAbove q_864 q_866 q_45 (hcp.1) (by decide) rfl dX7_bind_64 rfl rfl ⟨Nat.le_of_ble_eq_true rfl, Nat.le_of_ble_eq_true rfl⟩ (Nat.le_of_ble_eq_true rfl) ⟨Nat.le_of_ble_eq_true rfl, Nat.le_of_ble_eq_true rfl⟩ (fun v64 S64 p64 => ?_) (fun _ x => x.elim)
          obtain ⟨rfl, e64⟩ := p64
          have hP : ∀ f, f < 43 → ∀ y, pB S (wLv W j k) f = some y → (decide (nI (lsA A j k (aLen A (aOb A j)) + aTol A) < lfT S y) = bndQ A j k f) := by
            intro f hf y hy
            rcases h.1.lf hj hk hf with ⟨z1, z2⟩ | ⟨z1, y', hy', z2, z3⟩
            · rw [z2] at hy; cases hy
            · rw [hy'] at hy
              cases hy
              rw [z2]
              unfold bndQ
              rw [z1]
              simp only [decide_true, Bool.true_and]
              refine decide_eq_decide.mpr ?_
              unfold trV
              by_cases h0 : aTr A (aLs A j k f) = 0
              · rw [if_pos h0, h0]
                refine ⟨fun w => ?_, fun w => absurd w (by omega)⟩
                have := nI_pos' (n := lsA A j k (aLen A (aOb A j)) + aTol A) (by omega)
                have w2 := Int32.lt_of_le_of_lt this w
                exact absurd w2 (by decide)
              · rw [if_neg h0, nI_ltI (by omega) (by omega)]
                omega
          have hN : ct (spN S (wLv W j k) (fun _ y => decide (nI (lsA A j k (aLen A (aOb A j)) + aTol A) < lfT S y))) 43 = bndN A j k := by
            refine ct_cong 43 (fun f hf => ?_)
            unfold spN
            cases hy : pB S (wLv W j k) f with
            | none =>
              rcases h.1.lf hj hk hf with ⟨z1, z2⟩ | ⟨z1, y', hy', z2, z3⟩
              · unfold bndQ
                rw [z1]
                rfl
              · rw [hy] at hy'; cases hy'
            | some y => exact hP f hf y hy
          have hsp := (SPR.of (S := S) (v := wLv W j k) (P := fun _ y => decide (nI (lsA A j k (aLen A (aOb A j)) + aTol A) < lfT S y)))
          have hsp2 := hsp.cong2 (Q := fun x g y => ∃ o c, o < aNo A ∧ c < aNc A o ∧ x = wLv W o c ∧ g < 43 ∧ bndS A j k o c g = true) (fun x g y hy => by
            constructor
            · rintro ⟨rfl, hg43, hd⟩
              rw [hP g hg43 y hy] at hd
              exact ⟨j, k, hj, hk, rfl, hg43, bndS_iff.mpr ⟨rfl, rfl, hg43, hd⟩⟩
            · rintro ⟨o, c, q1, q2, rfl, hg43, hd⟩
              obtain ⟨rfl, rfl, -, w⟩ := bndS_iff.mp hd
              exact ⟨rfl, hg43, by rw [hP g hg43 y hy]; exact w⟩)
          have hn1 := CLn.spr (Q := bndS A j k) h.1 hsp2 (fun x g y z => z) (fun o c g y q1 q2 q3 q4 => ⟨o, c, q1, q2, rfl, q3, q4⟩)
          rw [← e64] at hsp hsp2 hn1
          have hg1 : gE G ∉ pL S64 := by rw [hsp.2.2.2.2.1]; exact hg
          have hfr : FrC tg S S64 tg := FrC.of (hsp.ex.mono (XI' := fun f _ => f = 101) (XR' := x2) (XA' := x0) (XB' := fun _ => True) (fun _ _ z => z) (fun _ _ z => z) (fun _ z => z) (fun _ z => z)) (fun _ _ => rfl) (fun f y z => by omega) (fun _ _ z => z.elim) (fun _ z => z.elim)
          have hle43 : bndN A j k ≤ 43 := ct_le _ _
          have kt1 := hsp.kd.mpr hr.1
          have kc1 := hsp.kd.mpr hcp.1
          rw [hN]
          refine r_istore hC dX7_bind_67 (by decide) ?_
          refine r_iload hC dX7_bind_69 rfl ?_
          refine r_ifle (tgt := 89) hC dX7_bind_71 (by decide) (fun h71 => ?_) (fun h71 => ?_)
          · have hn0 : bndN A j k = 0 := by
              refine Classical.byContradiction (fun z => ?_)
              exact absurd h71 (nI_nle (by omega) (by omega))
            have hA : spoA A (bndS A j k) = A := by
              have hz : ∀ o' c' f, bndS A j k o' c' f = false := by
                intro o' c' f
                cases w : bndS A j k o' c' f with
                | false => rfl
                | true =>
                  obtain ⟨-, -, hf, w2⟩ := bndS_iff.mp w
                  rw [ct_p 43 hn0 f hf] at w2
                  cases w2
              unfold spoA
              refine Prod.ext ?_ rfl
              funext r i j' k'
              show (if r = 5 then (if bndS A j k i j' k' = true then 0 else A.1 5 i j' k') else A.1 r i j' k') = A.1 r i j' k'
              rw [hz]
              by_cases hr5 : r = 5
              · rw [if_pos hr5, hr5]; rfl
              · rw [if_neg hr5]
            rw [hA] at hn1
            refine r_aload hC dX7_bind_89 rfl ?_
            refine r_iconst (v := nI 1) hC dX7_bind_91 (by decide) ?_
            refine r_putI hC fl_X7_214 rfl (by decide) dX7_bind_92 (kc1) (fun _ => by decide) ?_
            refine r_aload hC dX7_bind_95 rfl ?_
            refine r_iload hC dX7_bind_97 rfl ?_
            refine r_putI hC fl_X7_231 rfl (by decide) dX7_bind_99 (kc1) (fun h => absurd h (by decide)) ?_
            refine r_iload hC dX7_bind_102 rfl ?_
            refine r_iret hC hQ rfl dX7_bind_104 (Nat.le_of_ble_eq_true rfl) (Nat.le_of_ble_eq_true rfl) ?_
            have e : oBind A (nI j) (nI k) = (0, nI (aLen A (aOb A j)), uD A 4 j k 0 (aLen A (aOb A j) + 1)) := by
              unfold oBind
              rw [q2, if_pos ⟨q1, q3⟩, q4, if_neg (fun z => z.elim (fun w => w hb0) (fun w => by rw [hal] at w; cases w)), if_pos hn0]
            rw [e]
            refine ⟨rfl, rfl, tg, W, ⟨hn1.bd hg1 hj hk h43, fun o ho c f hf h1 h2 => ?_⟩, hfr.tr (FrC.of (XI := fun f y => f = 33 ∨ f = 34) (XR := x2) (XA := x0) (XB := x0) (Ex.tI (Ex.putI (Or.inl rfl)) (Or.inl (Or.inr rfl))) (fun _ _ => rfl) (fun f y z => by omega) (fun _ _ z => z.elim) (fun _ z => z.elim))⟩
            have h2' : (if o = j ∧ c = k ∧ (0 : Nat) = 0 then aLen A (aOb A j) + 1 else aBd A o c) = 0 := h2
            refine hF o ho c f hf h1 ?_
            split at h2'
            · omega
            · exact h2'
          · have hn0 : bndN A j k ≠ 0 := fun z => h71 (by rw [z]; decide)
            refine r_aload_n hC dX7_bind_74 rfl rfl ?_
            refine r_dup hC dX7_bind_75 rfl ?_
            refine r_getI hC fl_X7_49 rfl dX7_bind_76 (kt1) ((hsp.I (by decide) _).trans hr.2.2.2.2.2.2.2.2.2.1) ?_
            refine r_iload hC dX7_bind_79 rfl ?_
            refine r_iadd hC dX7_bind_81 ?_
            refine r_putI hC fl_X7_49 rfl (by decide) dX7_bind_82 (kt1) (fun h => absurd h (by decide)) ?_
            refine r_iload hC dX7_bind_85 rfl ?_
            refine r_ineg hC dX7_bind_87 ?_
            refine r_iret hC hQ rfl dX7_bind_88 (Nat.le_of_ble_eq_true rfl) (Nat.le_of_ble_eq_true rfl) ?_
            rw [nI_add]
            have e : oBind A (nI j) (nI k) = (0, -nI (bndN A j k), uD (spoA A (bndS A j k)) 0 4 0 0 (aSp A + bndN A j k)) := by
              unfold oBind
              rw [q2, if_pos ⟨q1, q3⟩, q4, if_neg (fun z => z.elim (fun w => w hb0) (fun w => by rw [hal] at w; cases w)), if_neg hn0]
            rw [e]
            refine ⟨rfl, rfl, tg, W, ⟨hn1.sp hg1 _, fun o ho c f hf h1 h2 => ?_⟩, hfr.tr (FrC.of (XI := fun f y => f = 232) (XR := x2) (XA := x0) (XB := x0) (Ex.putI rfl) (fun _ _ => rfl) (fun f y z => by omega) (fun _ _ z => z.elim) (fun _ z => z.elim))⟩
            have h1' : (if bndS A j k o c f = true then 0 else aHl A o c f) = 1 := h1
            refine hF o ho c f hf ?_ h2
            split at h1'
            · omega
            · exact h1'
    · refine r_out hC hQ hT (Nat.le_of_ble_eq_true rfl) (Nat.le_of_ble_eq_true rfl) ⟨0, ?_, by rw [x8.1]; rfl⟩
      unfold oBind
      rw [q2, if_neg (fun z => absurd z.2 (by rw [ixb_f x8.2]; decide))]
  · refine r_out hC hQ hT (Nat.le_of_ble_eq_true rfl) (Nat.le_of_ble_eq_true rfl) ⟨0, ?_, by rw [x2.1]; rfl⟩
    unfold oBind
    rw [if_neg (fun z => absurd z.1 (by rw [ixb_f x2.2]; decide))]
end BindA

