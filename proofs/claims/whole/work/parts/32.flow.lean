/-! ===== a book has changed: what it does not have so any more is spoiled ===== -/
def FrC (tg : TG) (S S' : PS) (tg' : TG) : Prop := Ex S S' (fun f _ => f < 256 ∨ 288 ≤ f) (fun f _ => f < 256 ∨ 288 ≤ f) (fun y => tg y ≠ 0) (fun _ => True) ∧ ∀ y, y ∈ pL S → tg' y = tg y
theorem FrC.rf {tg : TG} {S : PS} : FrC tg S S tg := ⟨Ex.rf, fun _ _ => rfl⟩
theorem FrC.tr {tg tg1 tg2 : TG} {S S1 S2 : PS} (h1 : FrC tg S S1 tg1) (h2 : FrC tg1 S1 S2 tg2) : FrC tg S S2 tg2 :=
  ⟨h1.1.trM h2.1 (fun _ _ _ z => z) (fun _ _ _ z => z) (fun y hy z => by rw [h1.2 y hy] at z; exact z) (fun _ _ z => z), fun y hy => (h2.2 y (h1.1 y hy).1).trans (h1.2 y hy)⟩
theorem FrC.of {tg tg' : TG} {S S' : PS} {XI XR : Nat → Nat → Prop} {XA XB : Nat → Prop} (h : Ex S S' XI XR XA XB) (ht : ∀ y, y ∈ pL S → tg' y = tg y) (n1 : ∀ f y, XI f y → f < 256 ∨ 288 ≤ f) (n2 : ∀ f y, XR f y → f < 256 ∨ 288 ≤ f) (n3 : ∀ y, XA y → tg y ≠ 0) : FrC tg S S' tg' := ⟨h.mono n1 n2 n3 (fun _ _ => trivial), ht⟩
theorem SPR.ex {S S' : PS} {P : Nat → Nat → Nat → Prop} (h : SPR S S' P) : Ex S S' (fun f _ => f = 101) x2 x0 (fun _ => True) := by
  intro y hy
  obtain ⟨h1, h2, h3, h4, h5, h6, h7, h8, h9, h10⟩ := h
  exact ⟨by rw [h5]; exact hy, by rw [h6], by rw [h8], fun f hf => h4 f y (fun e => absurd e hf), fun f _ => by rw [h7], fun _ => by rw [h9], fun z => absurd trivial z, by rw [h10]⟩
def flowQ (A : AS) (i o c f : Nat) : Bool := decide (aOb A o = i) && decide (aBd A o c = 0) && decide (aHl A o c f = 1) && decide (aPos A o c f ≠ posA A i f)
theorem flowQ_iff {A : AS} {i o c f : Nat} : flowQ A i o c f = true ↔ aOb A o = i ∧ aBd A o c = 0 ∧ aHl A o c f = 1 ∧ aPos A o c f ≠ posA A i f := by
  unfold flowQ
  simp only [Bool.and_eq_true, decide_eq_true_eq, and_assoc]
def flowN (A : AS) (i : Nat) : Nat := sm (fun o => sm (fun c => ct (fun f => flowQ A i o c f) 43) (aNc A o)) (aNo A)
abbrev OP : Type := Nat × Int32 × AS
def flow (A : AS) (i : Nat) : OP := (0, nI (flowN A i), uD (spoA A (flowQ A i)) 0 4 0 0 (aSp A + flowN A i))
theorem ct_0 {p : Nat → Bool} : ∀ n, (∀ i, i < n → p i = false) → ct p n = 0 := by
  intro n
  induction n with
  | zero => intro _; rfl
  | succ n ih => intro h; simp only [ct, ih (fun i hi => h i (by omega)), h n (by omega)]; rfl
theorem sm_0 {p : Nat → Nat} : ∀ n, (∀ i, i < n → p i = 0) → sm p n = 0 := by
  intro n
  induction n with
  | zero => intro _; rfl
  | succ n ih => intro h; simp only [sm, ih (fun i hi => h i (by omega)), h n (by omega)]
theorem posF_A {S : PS} {A : AS} {i r : Nat} (h : holds (pA S r) (aRow A i)) (f : Nat) : posF S r (aLen A i) f = posA A i f := by
  unfold posF posA
  split
  · rfl
  · exact h f (by unfold aLen at *; omega)
theorem VU.len {A : AS} (h : VU A) {i : Nat} (hi : i < aNb A) : aLen A i ≤ 43 := by
  obtain ⟨h8, hV⟩ := h.2.2.2.2.1 i hi
  have := frs_len hV (aSz A i) (Nat.le_refl _)
  rw [if_neg (by omega)] at this
  unfold aLen aRow
  omega
/-- the end of an operation: its answer, the class's state, what is left as it was -/
def EN (G : GG) (S : PS) (tg : TG) (t : Nat) (r : OP) (v : Option Value) (S' : PS) : Prop := r.1 = 0 ∧ v = some (.int r.2.1) ∧ ∃ tg' W', CL G S' tg' W' r.2.2 t ∧ FrC tg S S' tg'
theorem CLr.sp {S : PS} {tg : TG} {W : WT} {A : AS} {t : Nat} (h : CLr S tg W A t) (n : Nat) : CLr (sI S 232 t (nI n)) tg W (uD A 0 4 0 0 n) t := by
  obtain ⟨kt, r0, r1, r2, r3, r4, r5, r6, i1, i2, rest⟩ := h
  exact ⟨kt, r0, r1, r2, r3, r4, r5, r6, (I_f S t t _ (by decide)).trans i1, I_s S 232 t _, rest⟩
theorem CLn.sp {G : GG} {S : PS} {tg : TG} {W : WT} {A : AS} {t nl : Nat} (h : CLn G S tg W A t nl) (hg : gE G ∉ pL S) (n : Nat) : CLn G (sI S 232 t (nI n)) tg W (uD A 0 4 0 0 n) t nl := by
  obtain ⟨hv, hb, ho, hs, hr⟩ := h
  have hx : Ex S (sI S 232 t (nI n)) (fun f _ => f = 232) x2 x0 x0 := Ex.putI rfl
  exact ⟨hv, hb.ex hv hx (fun _ _ => rfl) hg (fun f y h z => by omega) (fun _ _ _ z => z) (fun _ _ _ z => z) (by decide) (fun z => z) (fun _ _ _ z => z),
    ho.ex hv hs.sc hx (fun _ _ => rfl) hg (fun f y h1 h2 z => by omega) (fun _ _ _ _ z => z) (fun _ _ _ z => z) (fun _ _ z => absurd z (by decide)) (fun _ _ z => z),
    hs.ex hv ho.lv hx (fun _ _ => rfl) hg (fun f y h z => by omega) (fun _ _ _ z => z) (fun _ _ z => z) (fun _ _ _ z => z) (by decide) (fun z => z), hr.sp n⟩
section FlowA
variable {l : Launch} {G : GG} {S : PS} {tg : TG} {W : WT} {A : AS} {t i : Nat}
set_option maxRecDepth 100000 in
set_option maxHeartbeats 2000000 in
theorem c_spoilChangedT (hl : l.stackTraces = false) (h : CLn G S tg W A t (aNs A)) (hi : i < aNb A) (hF : ∀ o, o < aNo A → aOb A o ≠ i → ∀ c f, f < 43 → aHl A o c f = 1 → aBd A o c = 0 → f < aLen A (aOb A o)) :
    MT l G S yX7_spoilChanged cX7_spoilChanged 5 (some .int) (rmA 4) [va_rf (some t), va_rf (some (wBk W i))] (fun v S' => v = some (.int (flow A i).2.1) ∧ CL G S' tg W (flow A i).2.2 t ∧ FrC tg S S' tg) (fun _ => False) := by
  obtain ⟨hv, hb, ho, hs, hr⟩ := id h
  have h43 := hv.len hi
  obtain ⟨bb, b1, b2, b3, b4, b5, b6, b7, b8, b9, b10, b11⟩ := hb.2.2.2 i hi
  have hpf := fun f => posF_A b11 f
  refine MT_of (by decide +kernel) hl rfl (Nat.le_of_ble_eq_true rfl) (fun Z hC hzl hnm hT hQ => ?_)
  change J G Z S 0 0 0 [some (va_rf (some t)), some (va_rf (some (wBk W i))), none, none, none] []
  have hzs : (zl Z).stackTraces = false := by rw [hzl]; exact hl
  refine r_hge hC (fun hg => ?_)
  have kt := hr.1
  have r225 := hr.2.2.1
  have i232 := hr.2.2.2.2.2.2.2.2.2.1
  have bkinj : ∀ o, o < aNo A → (wBk W (aOb A o) = wBk W i ↔ aOb A o = i) := by
    intro o hoo
    refine ⟨fun e => ?_, fun e => by rw [e]⟩
    have t1 := (hb.2.2.2 (aOb A o) (hv.2.2.2.2.2.1 o hoo).1).2.1
    rw [e] at t1
    omega
  have lvinj : ∀ o c o' c', o < aNo A → c < aNc A o → o' < aNo A → c' < aNc A o' → wLv W o c = wLv W o' c' → o = o' := by
    intro o c o' c' a1 a2 a3 a4 e
    have e1 := (ho.lv o c a1 a2).2
    have e2 := (ho.lv o' c' a3 a4).2
    rw [e] at e1
    have := (hv.2.2.2.2.2.1 o a1).2.2
    have := (hv.2.2.2.2.2.1 o' a3).2.2
    omega
  -- of the rows as of the state
  have hQ1 : ∀ o c f y, o < aNo A → c < aNc A o → f < 43 → pB S (wLv W o c) f = some y → (aOb A o = i ∧ pI S 33 (wCp W o c) = 0 ∧ pI S 99 y ≠ posF S (wBr W i) (aLen A i) f ↔ flowQ A i o c f = true) := by
    intro o c f y a1 a2 a3 hy
    obtain ⟨-, -, c3, c4⟩ := (ho.2.2.2 o a1).2.2.2.2 c a2
    rw [flowQ_iff, hpf]
    have e3 : pI S 33 (wCp W o c) = 0 ↔ aBd A o c = 0 := by
      rcases c3 with ⟨q1, q2⟩ | ⟨q1, q2, -⟩
      · rw [q1, q2]; simp
      · rw [q2]; exact ⟨fun z => absurd z (by decide), fun z => absurd z q1⟩
    rw [e3]
    rcases c4 f a3 with ⟨-, hn⟩ | ⟨d0, y', hy', d1, -⟩
    · rw [hn] at hy; cases hy
    · rw [hy'] at hy
      cases hy
      rw [d1, d0]
      simp only [true_and, ne_eq]
  have hcnt : ∀ o, o < aNo A → aOb A o = i → sm (fun c => if pI S 33 (wCp W o c) = 0 then ct (spN S (wLv W o c) (fun f y => decide (pI S 99 y ≠ posF S (wBr W i) (aLen A i) f))) 43 else 0) (aNc A o) = sm (fun c => ct (fun f => flowQ A i o c f) 43) (aNc A o) := by
    intro o hoo hob
    refine sm_cong _ (fun c hc => ?_)
    by_cases h33 : pI S 33 (wCp W o c) = 0
    · rw [if_pos h33]
      refine ct_cong 43 (fun f hf => ?_)
      unfold spN
      cases hy : pB S (wLv W o c) f with
      | none =>
        rcases ((ho.2.2.2 o hoo).2.2.2.2 c hc).2.2.2 f hf with ⟨d0, -⟩ | ⟨-, y', hy', -⟩
        · unfold flowQ
          rw [d0]
          simp
        · rw [hy] at hy'; cases hy'
      | some y =>
        have := hQ1 o c f y hoo hc hf hy
        cases hq : flowQ A i o c f with
        | true =>
          rw [hq] at this
          exact decide_eq_true (this.mpr rfl).2.2
        | false =>
          rw [hq] at this
          exact decide_eq_false (fun z => absurd (this.mp ⟨hob, h33, z⟩) (by decide))
    · rw [if_neg h33]
      refine (ct_0 43 (fun f hf => ?_)).symm
      rcases ((ho.2.2.2 o hoo).2.2.2.2 c hc).2.2.1 with ⟨q1, q2⟩ | ⟨q1, q2, -⟩
      · exact absurd q2 h33
      · unfold flowQ
        rw [decide_eq_false q1]
        simp
  have loop : ∀ (d k : Nat) (S1 : PS) (o4 : Option Value), k + d = aNo A → SPR S S1 (fun x g y => ∃ o, o < k ∧ aOb A o = i ∧ ∃ c, c < aNc A o ∧ x = wLv W o c ∧ pI S 33 (wCp W o c) = 0 ∧ g < 43 ∧ pI S 99 y ≠ posF S (wBr W i) (aLen A i) g) →
      J G Z S1 0 0 4 [some (va_rf (some t)), some (va_rf (some (wBk W i))), some (.int (nI (sm (fun o => sm (fun c => ct (fun f => flowQ A i o c f) 43) (aNc A o)) k))), some (.int (nI k)), o4] [] := by
    intro d
    induction d with
    | zero =>
      intro k S1 o4 hk hsp
      have hk : k = aNo A := by omega
      subst hk
      have h13 : ∀ x, KD S x 13 → ∀ g y, ¬ ∃ o, o < aNo A ∧ aOb A o = i ∧ ∃ c, c < aNc A o ∧ x = wLv W o c ∧ pI S 33 (wCp W o c) = 0 ∧ g < 43 ∧ pI S 99 y ≠ posF S (wBr W i) (aLen A i) g := by
        rintro x kx g y ⟨o, q1, -, c, q2, q3, -⟩
        have := ((ho.2.2.2 o q1).1.2.2.2.2.2.2.1 c q2).2.2.1
        rw [← q3] at this
        exact absurd (this.2.symm.trans kx.2) (by decide)
      have hl1 := hsp.list ho.1 (fun arr _ k => h13 arr k)
      have kt1 := hsp.kd.mpr kt
      have r225' : pR S1 225 t = some (wLo W) := by rw [hsp.R]; exact r225
      refine r_iload_n hC dX7_spoilChanged_4 rfl rfl ?_
      refine r_aload_n hC dX7_spoilChanged_5 rfl rfl ?_
      refine r_getR  hC fl_X7_16 dX7_spoilChanged_6 (kt1) (r225') ?_
      refine r_cV (as := []) hC (c_size hzs hl1.1) cs_Jx4a65c_size_8abf5 q_201 q_202 q_203 (hl1.1) (by decide) rfl dX7_spoilChanged_9 rfl rfl ⟨Nat.le_of_ble_eq_true rfl, Nat.le_of_ble_eq_true rfl⟩ (Nat.le_of_ble_eq_true rfl) ⟨Nat.le_of_ble_eq_true rfl, Nat.le_of_ble_eq_true rfl⟩ (fun v9 S9 p9 => ?_) (fun _ x => x.elim)
      obtain ⟨rfl, e9⟩ := p9
      rw [e9, hl1.2.1]
      refine r_icge (tgt := 51) hC dX7_spoilChanged_12 (by decide) (fun h12 => ?_) (fun h12 => ?_)
      · have hsp2 := hsp.cong2 (Q := fun x g y => ∃ o c, o < aNo A ∧ c < aNc A o ∧ x = wLv W o c ∧ g < 43 ∧ flowQ A i o c g = true) (fun x g y hy => by
          constructor
          · rintro ⟨o, q1, q2, c, q3, q4, q5, q6, q7⟩
            exact ⟨o, c, q1, q3, q4, q6, (hQ1 o c g y q1 q3 q6 (q4 ▸ hy)).mp ⟨q2, q5, q7⟩⟩
          · rintro ⟨o, c, q1, q3, q4, q6, q7⟩
            obtain ⟨z1, z2, z3⟩ := (hQ1 o c g y q1 q3 q6 (q4 ▸ hy)).mpr q7
            exact ⟨o, q1, z1, c, q3, q4, z2, q6, z3⟩)
        have hn := CLn.spr (Q := flowQ A i) h hsp2 (fun x g y z => z) (fun o c g y q1 q2 q3 q4 => ⟨o, c, q1, q2, rfl, q3, q4⟩)
        have hg1 : gE G ∉ pL S1 := by rw [hsp.2.2.2.2.1]; exact hg
        refine r_aload_n hC dX7_spoilChanged_51 rfl rfl ?_
        refine r_dup hC dX7_spoilChanged_52 rfl ?_
        refine r_getI hC fl_X7_49 rfl dX7_spoilChanged_53 (kt1) ((hsp.I (by decide) _).trans i232) ?_
        refine r_iload_n hC dX7_spoilChanged_56 rfl rfl ?_
        refine r_iadd hC dX7_spoilChanged_57 ?_
        refine r_putI hC fl_X7_49 rfl (by decide) dX7_spoilChanged_58 (kt1) (fun h => absurd h (by decide)) ?_
        refine r_iload_n hC dX7_spoilChanged_61 rfl rfl ?_
        refine r_iret hC hQ rfl dX7_spoilChanged_62 (Nat.le_of_ble_eq_true rfl) (Nat.le_of_ble_eq_true rfl) ?_
        rw [nI_add]
        refine ⟨rfl, ⟨hn.sp hg1 _, ?_⟩, ?_⟩
        · intro o hoo c f hf h1 h2
          have h1' : (if flowQ A i o c f = true then 0 else aHl A o c f) = 1 := h1
          by_cases hq : flowQ A i o c f = true
          · rw [if_pos hq] at h1'
            cases h1'
          · rw [if_neg hq] at h1'
            show f < aLen A (aOb A o)
            by_cases hob : aOb A o = i
            · have hpe : aPos A o c f = posA A i f := Classical.byContradiction (fun z => hq (flowQ_iff.mpr ⟨hob, h2, h1', z⟩))
              have hne := ((hv.2.2.2.2.2.2.2.2.2.2 o hoo c f hf).2 h1').2.2
              rw [hob]
              refine Nat.lt_of_not_le (fun z => hne ?_)
              rw [hpe]
              unfold posA
              rw [if_pos z]
            · exact hF o hoo hob c f hf h1' h2
        · refine FrC.of (XI := fun f _ => f = 101 ∨ f = 232) (XR := x2) (XA := x0) (XB := fun _ => True) ?_ (fun _ _ => rfl) (fun f y z => by omega) (fun _ _ z => z.elim) (fun _ z => z.elim)
          refine Ex.tI ?_ (Or.inl (Or.inr rfl))
          exact hsp.ex.mono (fun _ _ z => Or.inl z) (fun _ _ z => z) (fun _ z => z) (fun _ z => z)
      · exact absurd (nI_le (Nat.le_refl _) (by have := hv.2.1; omega)) h12
    | succ d ih =>
      intro k S1 o4 hk hsp
      have hkn : k < aNo A := by omega
      have hn5 := hv.2.1
      have h13 : ∀ x, KD S x 13 → ∀ g y, ¬ ∃ o, o < k ∧ aOb A o = i ∧ ∃ c, c < aNc A o ∧ x = wLv W o c ∧ pI S 33 (wCp W o c) = 0 ∧ g < 43 ∧ pI S 99 y ≠ posF S (wBr W i) (aLen A i) g := by
        rintro x kx g y ⟨o, q1, -, c, q2, q3, -⟩
        have := ((ho.2.2.2 o (by omega)).1.2.2.2.2.2.2.1 c q2).2.2.1
        rw [← q3] at this
        exact absurd (this.2.symm.trans kx.2) (by decide)
      have hl1 := hsp.list ho.1 (fun arr _ k => h13 arr k)
      have kt1 := hsp.kd.mpr kt
      have r225' : pR S1 225 t = some (wLo W) := by rw [hsp.R]; exact r225
      have hor := hsp.or (ho.2.2.2 k hkn).1 h13
      have hrow : ∀ c, c < aNc A k → ∀ f, pB S1 (wLv W k c) f = pB S (wLv W k c) f := fun c hc f => hsp.2.1 _ _ (fun y _ ⟨o, q1, _, c', q2, q3, _⟩ => absurd (lvinj k c o c' hkn hc (by omega) q2 q3) (by omega))
      refine r_iload_n hC dX7_spoilChanged_4 rfl rfl ?_
      refine r_aload_n hC dX7_spoilChanged_5 rfl rfl ?_
      refine r_getR  hC fl_X7_16 dX7_spoilChanged_6 (kt1) (r225') ?_
      refine r_cV (as := []) hC (c_size hzs hl1.1) cs_Jx4a65c_size_8abf5 q_201 q_202 q_203 (hl1.1) (by decide) rfl dX7_spoilChanged_9 rfl rfl ⟨Nat.le_of_ble_eq_true rfl, Nat.le_of_ble_eq_true rfl⟩ (Nat.le_of_ble_eq_true rfl) ⟨Nat.le_of_ble_eq_true rfl, Nat.le_of_ble_eq_true rfl⟩ (fun v9 S9 p9 => ?_) (fun _ x => x.elim)
      obtain ⟨rfl, e9⟩ := p9
      rw [e9, hl1.2.1]
      refine r_icge (tgt := 51) hC dX7_spoilChanged_12 (by decide) (fun h12 => ?_) (fun h12 => ?_)
      · exact absurd ((nI_leI (by omega) (by omega)).mp h12) (by omega)
      · skip
        refine r_aload_n hC dX7_spoilChanged_15 rfl rfl ?_
        refine r_getR  hC fl_X7_16 dX7_spoilChanged_16 (kt1) (r225') ?_
        refine r_iload_n hC dX7_spoilChanged_19 rfl rfl ?_
        refine r_cV (as := [.int (nI k)]) hC (c_get hzs hl1 hkn (by omega)) cs_Jx4a65c_get_915e3 q_205 q_206 q_207 (hl1.1) (by decide) rfl dX7_spoilChanged_20 rfl rfl ⟨Nat.le_of_ble_eq_true rfl, Nat.le_of_ble_eq_true rfl⟩ (Nat.le_of_ble_eq_true rfl) ⟨Nat.le_of_ble_eq_true rfl, Nat.le_of_ble_eq_true rfl⟩ (fun v20 S20 p20 => ?_) (fun _ x => x.elim)
        obtain ⟨rfl, e20⟩ := p20
        rw [e20]
        refine r_cast hC q_479 dX7_spoilChanged_23 hor.1 (by decide) rfl ?_
        refine r_astore hC dX7_spoilChanged_26 (by decide) ?_
        refine r_aload hC dX7_spoilChanged_28 rfl ?_
        refine r_getR  hC fl_X7_210 dX7_spoilChanged_30 (hor.1) (hor.2.1) ?_
        refine r_aload_n hC dX7_spoilChanged_33 rfl rfl ?_
        refine r_acmpne (tgt := 45) hC dX7_spoilChanged_34 (by decide) (fun h34 => ?_) (fun h34 => ?_)
        · have hob : aOb A k ≠ i := fun e => h34 (by rw [e])
          refine r_iinc hC dX7_spoilChanged_45 rfl (ii1 _) ?_
          refine r_goto (tgt := 4) hC dX7_spoilChanged_48 (by decide) ?_
          have h0 : sm (fun c => ct (fun f => flowQ A i k c f) 43) (aNc A k) = 0 := sm_0 _ (fun c _ => ct_0 43 (fun f _ => by unfold flowQ; rw [decide_eq_false hob]; simp))
          have := ih (k + 1) S1 (some (va_rf (some (wOo W k)))) (by omega) (hsp.cong (fun x g y => ⟨fun ⟨o, q1, q2⟩ => ⟨o, by omega, q2⟩, fun ⟨o, q1, q2⟩ => ⟨o, by
            rcases Nat.lt_or_ge o k with z | z
            · exact z
            · have : o = k := by omega
              subst this
              exact absurd q2.1 hob, q2⟩⟩))
          simp only [sm, h0, Nat.add_zero] at this
          exact this
        · have hob : aOb A k = i := (bkinj k hkn).mp (Option.some.inj h34)
          have hbb : isBk S1 (wBk W (aOb A k)) (wBp W i) (wBe W i) (wBc W i) (wBr W i) := by rw [hob]; exact hsp.bk bb
          refine r_iload_n hC dX7_spoilChanged_37 rfl rfl ?_
          refine r_aload hC dX7_spoilChanged_38 rfl ?_
          refine r_cVN (as := []) hC (c_spoilChangedO hzs hor hbb (by rw [hob]; exact (hsp.I (by decide) _).trans b7) h43) cs_X4_spoilChanged q_480 q_482 q_12 (hor.1) (by decide) rfl dX7_spoilChanged_40 rfl rfl ⟨Nat.le_of_ble_eq_true rfl, Nat.le_of_ble_eq_true rfl⟩ (Nat.le_of_ble_eq_true rfl) ⟨Nat.le_of_ble_eq_true rfl, Nat.le_of_ble_eq_true rfl⟩ (fun v40 S40 p40 => ?_) (fun _ x => x.elim)
          obtain ⟨rfl, hsp2⟩ := p40
          refine r_iadd hC dX7_spoilChanged_43 ?_
          refine r_istore_n hC dX7_spoilChanged_44 rfl (by decide) ?_
          refine r_iinc hC dX7_spoilChanged_45 rfl (ii1 _) ?_
          refine r_goto (tgt := 4) hC dX7_spoilChanged_48 (by decide) ?_
          have hpf1 : ∀ f, posF S1 (wBr W i) (aLen A i) f = posF S (wBr W i) (aLen A i) f := fun f => by unfold posF; rw [hsp.A]
          have hc1 : sm (fun c => if pI S1 33 (wCp W k c) = 0 then ct (spN S1 (wLv W k c) (fun f y => decide (pI S1 99 y ≠ posF S1 (wBr W i) (aLen A i) f))) 43 else 0) (aNc A k) = sm (fun c => ct (fun f => flowQ A i k c f) 43) (aNc A k) := by
            rw [← hcnt k hkn hob]
            refine sm_cong _ (fun c hc => ?_)
            rw [hsp.I (show (33 : Nat) ≠ 101 by decide)]
            have : spN S1 (wLv W k c) (fun f y => decide (pI S1 99 y ≠ posF S1 (wBr W i) (aLen A i) f)) = spN S (wLv W k c) (fun f y => decide (pI S 99 y ≠ posF S (wBr W i) (aLen A i) f)) := by
              funext f
              unfold spN
              rw [hrow c hc f]
              cases pB S (wLv W k c) f with
              | none => rfl
              | some y => simp only [hpf1, hsp.I (show (99 : Nat) ≠ 101 by decide)]
            rw [this]
          rw [hc1, nI_add]
          refine ih (k + 1) _ _ (by omega) ((hsp.tr hsp2 ?_).cong ?_)
          · rintro x g y g' y' ⟨o, q1, -, c, q2, q3, -⟩ ⟨c', q4, q5, -⟩
            exact absurd (lvinj o c k c' (by omega) q2 hkn q4 (q3.symm.trans q5)) (by omega)
          · intro x g y
            constructor
            · rintro (⟨o, q1, q2⟩ | ⟨c, q1, q2, q3, q4, q5⟩)
              · exact ⟨o, by omega, q2⟩
              · refine ⟨k, by omega, hob, c, q1, q2, ?_, q4, ?_⟩
                · rwa [hsp.I (show (33 : Nat) ≠ 101 by decide)] at q3
                · rwa [hsp.I (show (99 : Nat) ≠ 101 by decide), hpf1] at q5
            · rintro ⟨o, q1, q2, c, q3, q4, q5, q6, q7⟩
              by_cases hok : o = k
              · subst hok
                refine Or.inr ⟨c, q3, q4, ?_, q6, ?_⟩
                · rwa [hsp.I (show (33 : Nat) ≠ 101 by decide)]
                · rwa [hsp.I (show (99 : Nat) ≠ 101 by decide), hpf1]
              · exact Or.inl ⟨o, by omega, q2, c, q3, q4, q5, q6, q7⟩
  refine r_iconst (v := nI 0) hC dX7_spoilChanged_0 (by decide) ?_
  refine r_istore_n hC dX7_spoilChanged_1 rfl (by decide) ?_
  refine r_iconst (v := nI 0) hC dX7_spoilChanged_2 (by decide) ?_
  refine r_istore_n hC dX7_spoilChanged_3 rfl (by decide) ?_
  exact loop (aNo A) 0 S none (by omega) (SPR.rf (fun x g y ⟨o, q1, _⟩ => absurd q1 (by omega)))
end FlowA

