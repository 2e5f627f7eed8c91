/-! ===== a sheet is filled by an order ===== -/
abbrev rmF : Room := { frames := 4, cells := 8, slots := 48, locals := 160 }
def frL (j o c : Nat) : Nat → AS × Nat → AS × Nat
  | 0, s => s
  | f + 1, s => if (frL j o c f s).2 < 8 ∧ lackQ (frL j o c f s).1 o c f = true then (lay1 (frL j o c f s).1 j o c f (frL j o c f s).2, (frL j o c f s).2 + 1) else frL j o c f s
def cpL (j o len : Nat) : Nat → AS × Nat → AS × Nat
  | 0, s => s
  | c + 1, s => frL j o c len (cpL j o len c s)
theorem frL_stop {j o c : Nat} {s : AS × Nat} {f : Nat} (h : 8 ≤ (frL j o c f s).2) : ∀ d, frL j o c (f + d) s = frL j o c f s := by
  intro d
  induction d with
  | zero => rfl
  | succ d ih =>
    show (if (frL j o c (f + d) s).2 < 8 ∧ _ then _ else frL j o c (f + d) s) = _
    rw [if_neg (fun z => by rw [ih] at z; omega), ih]
/-- what laying leaves of the state -/
def sameA (A A1 : AS) : Prop := (∀ r, r ≠ 5 → r ≠ 6 → r ≠ 11 → A1.1 r = A.1 r) ∧ ∀ r, r ≠ 3 → A1.2 r = A.2 r
theorem sameA.rf {A : AS} : sameA A A := ⟨fun _ _ _ _ => rfl, fun _ _ => rfl⟩
theorem sameA.lay {A A1 : AS} (h : sameA A A1) (j o c f p : Nat) : sameA A (lay1 A1 j o c f p) := by
  refine ⟨fun r h5 h6 h11 => ?_, fun r h3 => ?_⟩
  · rw [← h.1 r h5 h6 h11]
    funext i k m
    show (if r = 5 then _ else if r = 6 then _ else if r = 11 then _ else A1.1 r i k m) = _
    rw [if_neg h5, if_neg h6, if_neg h11]
  · rw [← h.2 r h3]
    funext i k
    show (if r = 3 then _ else A1.2 r i k) = _
    rw [if_neg h3]
theorem sameA.all {A A1 : AS} (h : sameA A A1) : aNb A1 = aNb A ∧ aNo A1 = aNo A ∧ aNs A1 = aNs A ∧ (∀ o, aOb A1 o = aOb A o) ∧ (∀ o, aNc A1 o = aNc A o) ∧ (∀ i, aLen A1 i = aLen A i) ∧ aFd A1 = aFd A := by
  have e0 := h.1 0 (by decide) (by decide) (by decide)
  have e1 := h.1 1 (by decide) (by decide) (by decide)
  have e2 := h.1 2 (by decide) (by decide) (by decide)
  have e3 := h.1 3 (by decide) (by decide) (by decide)
  have e7 := h.1 7 (by decide) (by decide) (by decide)
  have p0 := h.2 0 (by decide)
  have p1 := h.2 1 (by decide)
  have p2 := h.2 2 (by decide)
  refine ⟨by unfold aNb; rw [e0], by unfold aNo; rw [e0], by unfold aNs; rw [e0], fun o => by unfold aOb; rw [e2], fun o => by unfold aNc; rw [e3], fun i => ?_, by unfold aFd; rw [e7]⟩
  unfold aLen aRow aSz aPs aBt aCv
  rw [e1, p0, p1, p2]
def IL (G : GG) (S : PS) (tg : TG) (W : WT) (t nl j : Nat) (A : AS) (S1 : PS) (s : AS × Nat) : Prop :=
  CLn G S1 tg W s.1 t nl ∧ VF s.1 ∧ Ex S S1 x2 x2 x0 (fun _ => True) ∧ sameA A s.1 ∧ s.2 ≤ 8 ∧ ∀ p, s.2 ≤ p → p < 8 → aLi s.1 j (unf (aFd A) p) = 0
section FillA
variable {l : Launch} {G : GG} {S S0 S2 : PS} {tg : TG} {W : WT} {A : AS} {t nl j o : Nat}
theorem CLn.ex0 (h : CLn G S tg W A t nl) (hx : Ex S S2 x2 x2 x0 x0) (hg : gE G ∉ pL S2) : CLn G S2 tg W A t nl := by
  obtain ⟨hv, hb, ho, hs, hr⟩ := h
  exact ⟨hv, hb.ex hv hx (fun _ _ => rfl) hg (fun _ _ _ z => z) (fun _ _ _ z => z) (fun _ _ _ z => z) (fun z => z) (fun z => z) (fun _ _ _ z => z),
    ho.ex hv hs.sc hx (fun _ _ => rfl) hg (fun _ _ _ _ z => z) (fun _ _ _ _ z => z) (fun _ _ _ z => z) (fun _ _ z => z) (fun _ _ z => z),
    hs.ex hv ho.lv hx (fun _ _ => rfl) hg (fun _ _ _ _ z => z) (fun _ _ _ z => z) (fun _ _ z => z) (fun _ _ _ z => z) (fun z => z) (fun z => z),
    hr.ex hx (fun _ _ => rfl) (fun _ _ _ z => z) (fun _ _ _ z => z) (fun _ _ z => z)⟩
set_option maxRecDepth 100000 in
set_option maxHeartbeats 4000000 in
theorem c_fill (hl : l.stackTraces = false) {s : AS × Nat} (h : IL G S0 tg W t nl j A S s) (hoo : o < aNo A) (hj : j < aNs A) (hfd : wSf W j = aFd A) :
    MT l G S yX4_fill cX4_fill 8 (some .int) rmF [va_rf (some (wOo W o)), va_rf (some (wSh W j)), .int (nI s.2)]
      (fun v S' => v = some (.int (nI (cpL j o (aLen A (aOb A o)) (aNc A o) s).2)) ∧ IL G S0 tg W t nl j A S' (cpL j o (aLen A (aOb A o)) (aNc A o) s)) (fun _ => False) := by
  obtain ⟨len, elen⟩ : ∃ n, n = aLen A (aOb A o) := ⟨_, rfl⟩
  rw [← elen]
  have h43 : len ≤ 43 := by
    have hv := h.1.1
    have := hv.len (hv.2.2.2.2.2.1 o (by rw [h.2.2.2.1.all.2.1]; exact hoo)).1
    rw [h.2.2.2.1.all.2.2.2.2.2.1, h.2.2.2.1.all.2.2.2.1] at this
    omega
  refine MT_of (by decide +kernel) hl rfl (Nat.le_of_ble_eq_true rfl) (fun Z hC hzl hnm hT hQ => ?_)
  change J G Z S 0 0 0 [some (va_rf (some (wOo W o))), some (va_rf (some (wSh W j))), some (.int (nI s.2)), none, none, none, none, none] []
  have hzs : (zl Z).stackTraces = false := by rw [hzl]; exact hl
  have hp8 := h.2.2.2.2.1
  refine J.wide (Nat.zero_le s.2) (Nat.zero_le (6 * s.2)) ?_
  have frames : ∀ (c : Nat) (s0 : AS × Nat), c < aNc A o → (∀ S2 o6 o7, IL G S0 tg W t nl j A S2 (frL j o c len s0) → J G Z S2 (frL j o c len s0).2 (6 * (frL j o c len s0).2) 112 [some (va_rf (some (wOo W o))), some (va_rf (some (wSh W j))), some (.int (nI s.2)), some (.int (nI (frL j o c len s0).2)), some (.int (nI c)), some (va_rf (some (wCp W o c))), o6, o7] []) →
      ∀ (d f : Nat) (S1 : PS) (o7 : Option Value) (s1 : AS × Nat), f + d = len → s1 = frL j o c f s0 → IL G S0 tg W t nl j A S1 s1 →
      J G Z S1 s1.2 (6 * s1.2) 34 [some (va_rf (some (wOo W o))), some (va_rf (some (wSh W j))), some (.int (nI s.2)), some (.int (nI s1.2)), some (.int (nI c)), some (va_rf (some (wCp W o c))), some (.int (nI f)), o7] [] := by
    intro c s0 hc kk d
    induction d with
    | zero =>
      intro f S1 o7 s1 hf es hI
      have hf : f = len := by omega
      subst hf
      obtain ⟨hn, hvf, hex, hsm, hp, hem⟩ := id hI
      obtain ⟨hv, hb, ho, hs, hr⟩ := id hn
      obtain ⟨m1, m2, m3, m4, m5, m6, m7⟩ := hsm.all
      have hor := (ho.2.2.2 o (by rw [m2]; exact hoo)).1
      have hob := (hv.2.2.2.2.2.1 o (by rw [m2]; exact hoo)).1
      have hln : pI S1 5 (wBk W (aOb s1.1 o)) = nI f := by rw [(hb.2.2.2 _ hob).2.2.2.2.2.2.2.1, m6, m4, elen]
      refine r_iload hC dX4_fill_34 rfl ?_
      refine r_aload_n hC dX4_fill_36 rfl rfl ?_
      refine r_getR  hC fl_X4_22 dX4_fill_37 (hor.1) (hor.2.1) ?_
      refine r_getI hC fl_X4_33 rfl dX4_fill_40 (hor.2.2.1) (hln) ?_
      refine r_icge (tgt := 112) hC dX4_fill_43 (by decide) (fun h43 => ?_) (fun h43 => ?_)
      · rw [es] at hI ⊢
        exact kk S1 _ _ hI
      · exact absurd (nI_le (Nat.le_refl _) (by omega)) h43
    | succ d ih =>
      intro f S1 o7 s1 hf es hI
      have hfl : f < len := by omega
      have hf43 : f < 43 := by omega
      obtain ⟨hn, hvf, hex, hsm, hp, hem⟩ := id hI
      obtain ⟨hv, hb, ho, hs, hr⟩ := id hn
      obtain ⟨m1, m2, m3, m4, m5, m6, m7⟩ := hsm.all
      have hoo1 : o < aNo s1.1 := by rw [m2]; exact hoo
      have hcc1 : c < aNc s1.1 o := by rw [m5]; exact hc
      have hj1 : j < aNs s1.1 := by rw [m3]; exact hj
      obtain ⟨g1, g2, g3, g4, g5⟩ := id (ho.2.2.2 o hoo1)
      have hob := (hv.2.2.2.2.2.1 o hoo1).1
      have hln : pI S1 5 (wBk W (aOb s1.1 o)) = nI len := by rw [(hb.2.2.2 _ hob).2.2.2.2.2.2.2.1, m6, m4, elen]
      have hfl1 : f < aLen s1.1 (aOb s1.1 o) := by rw [m6, m4, ← elen]; exact hfl
      have hcp := g1.2.2.2.2.2.2.1 c hcc1
      have h5 := hv.2.1
      have h3 := (hv.2.2.2.2.2.1 o hoo1).2.2
      refine r_iload hC dX4_fill_34 rfl ?_
      refine r_aload_n hC dX4_fill_36 rfl rfl ?_
      refine r_getR  hC fl_X4_22 dX4_fill_37 (g1.1) (g1.2.1) ?_
      refine r_getI hC fl_X4_33 rfl dX4_fill_40 (g1.2.2.1) (hln) ?_
      refine r_icge (tgt := 112) hC dX4_fill_43 (by decide) (fun h43 => ?_) (fun h43 => ?_)
      · exact absurd ((nI_leI (by omega) (by omega)).mp h43) (by omega)
      · skip
        refine r_iload_n hC dX4_fill_46 rfl rfl ?_
        refine r_bipush (v := nI 8) hC dX4_fill_47 (by decide) ?_
        refine r_icge (tgt := 112) hC dX4_fill_49 (by decide) (fun h49 => ?_) (fun h49 => ?_)
        · have h8 : s1.2 = 8 := by
            have := (nI_leI (by omega) (by omega)).mp h49
            omega
          have hst : frL j o c len s0 = s1 := by
            have := frL_stop (j := j) (o := o) (c := c) (s := s0) (f := f) (by rw [← es]; omega) (d + 1)
            rw [hf] at this
            rw [this, es]
          have := kk S1 (some (.int (nI f))) o7 (by rw [hst]; exact hI)
          rw [hst] at this
          exact this
        · have h8 : s1.2 < 8 := Nat.lt_of_not_le (fun z => h49 (nI_le z (by omega)))
          refine r_aload hC dX4_fill_52 rfl ?_
          refine r_iload hC dX4_fill_54 rfl ?_
          refine r_cVN (as := [.int (nI f)]) hC (c_isLacking hzs hcp hf43) cs_X1_isLacking q_733 q_606 q_21 (hcp.1) (by decide) rfl dX4_fill_56 rfl rfl ⟨Nat.le_of_ble_eq_true rfl, Nat.le_of_ble_eq_true rfl⟩ (Nat.le_of_ble_eq_true rfl) ⟨by first | exact (show s1.2 + 0 ≤ 8 by omega) | exact (show 6 * s1.2 + 0 ≤ 48 by omega) | exact (show s1.2 + 1 ≤ 8 by omega) | exact (show 6 * s1.2 + 6 ≤ 48 by omega), by first | exact (show s1.2 + 0 ≤ 8 by omega) | exact (show 6 * s1.2 + 0 ≤ 48 by omega) | exact (show s1.2 + 1 ≤ 8 by omega) | exact (show 6 * s1.2 + 6 ≤ 48 by omega)⟩ (fun v56 S56 p56 => ?_) (fun _ x => x.elim)
          obtain ⟨rfl, e56⟩ := p56
          rw [e56, (g5 c hcc1).lack hf43]
          refine r_ifeq (tgt := 106) hC dX4_fill_59 (by decide) (fun h59 => ?_) (fun h59 => ?_)
          · have hq : lackQ s1.1 o c f = false := by
              cases hq : lackQ s1.1 o c f with
              | false => rfl
              | true => rw [hq] at h59; exact absurd h59 (by decide)
            have es2 : s1 = frL j o c (f + 1) s0 := by
              show s1 = if (frL j o c f s0).2 < 8 ∧ lackQ (frL j o c f s0).1 o c f = true then _ else frL j o c f s0
              rw [← es, if_neg (fun z => by rw [hq] at z; exact absurd z.2 (by decide))]
            refine r_iinc hC dX4_fill_106 rfl (ii1 _) ?_
            refine r_goto (tgt := 34) hC dX4_fill_109 (by decide) ?_
            exact ih (f + 1) S1 o7 s1 (by omega) es2 hI
          · have hq : lackQ s1.1 o c f = true := by
              cases hq : lackQ s1.1 o c f with
              | true => rfl
              | false => rw [hq] at h59; exact absurd rfl h59
            have hhl : aHl s1.1 o c f = 0 := by
              unfold lackQ at hq
              rw [Bool.and_eq_true, decide_eq_true_eq, decide_eq_true_eq] at hq
              exact hq.2
            have es2 : (lay1 s1.1 j o c f s1.2, s1.2 + 1) = frL j o c (f + 1) s0 := by
              show _ = if (frL j o c f s0).2 < 8 ∧ lackQ (frL j o c f s0).1 o c f = true then _ else frL j o c f s0
              rw [← es, if_pos ⟨h8, hq⟩]
            refine r_new hC nw_X4_65 dX4_fill_62 (by first | exact (show s1.2 + 0 ≤ 8 by omega) | exact (show 6 * s1.2 + 0 ≤ 48 by omega) | exact (show s1.2 + 1 ≤ 8 by omega) | exact (show 6 * s1.2 + 6 ≤ 48 by omega)) (by first | exact (show s1.2 + 0 ≤ 8 by omega) | exact (show 6 * s1.2 + 0 ≤ 48 by omega) | exact (show s1.2 + 1 ≤ 8 by omega) | exact (show 6 * s1.2 + 6 ≤ 48 by omega)) (fun q62 hq62 hg62 => ?_)
            refine r_hge hC (fun hg62 => ?_)
            have hx62 : Ex S1 (sO S1 q62 3) x2 x2 x0 x0 := Ex.newO hq62
            have hn62 := hn.ex0 hx62 hg62
            obtain ⟨hv2, hb2, ho2, hs2, hr2⟩ := id hn62
            obtain ⟨k1, k2, k3, k4, k5⟩ := id (ho2.2.2.2 o hoo1)
            have hbk2 := hb2.2.2.2 _ hob
            have hpos := posF_A hbk2.2.2.2.2.2.2.2.2.2.2.2 f
            have hl62 : aLen s1.1 (aOb s1.1 o) ≤ 43 := hv.len hob
            refine r_dup hC dX4_fill_65 rfl ?_
            refine r_aload_n hC dX4_fill_66 rfl rfl ?_
            refine r_getI hC fl_X4_18 rfl dX4_fill_67 (k1.1) (k2) ?_
            refine r_iload hC dX4_fill_70 rfl ?_
            refine r_iload hC dX4_fill_72 rfl ?_
            refine r_aload_n hC dX4_fill_74 rfl rfl ?_
            refine r_getR  hC fl_X4_22 dX4_fill_75 (k1.1) (k1.2.1) ?_
            refine r_iload hC dX4_fill_78 rfl ?_
            refine r_cVN (as := [.int (nI f)]) hC (c_posN hzs hbk2.1 hbk2.2.2.2.2.2.2.2.1 hl62 (f := f) (by omega)) cs_X0_positionOf q_736 q_495 q_14 (k1.2.2.1) (by decide) rfl dX4_fill_80 rfl rfl ⟨Nat.le_of_ble_eq_true rfl, Nat.le_of_ble_eq_true rfl⟩ (Nat.le_of_ble_eq_true rfl) ⟨by first | exact (show s1.2 + 1 + 0 ≤ 8 by omega) | exact (show 6 * s1.2 + 6 + 0 ≤ 48 by omega), by first | exact (show s1.2 + 1 + 0 ≤ 8 by omega) | exact (show 6 * s1.2 + 6 + 0 ≤ 48 by omega)⟩ (fun v80 S80 p80 => ?_) (fun _ x => x.elim)
            obtain ⟨rfl, e80⟩ := p80
            rw [e80, hpos]
            refine r_aload_n hC dX4_fill_83 rfl rfl ?_
            refine r_cIN (as := [.int (nI o), .int (nI c), .int (nI f), .int (posA s1.1 (aOb s1.1 o) f), va_rf (some (wSh W j))]) hC (c_Leaf_init hzs kd_newO (nI o) (nI c) (nI f) (posA s1.1 (aOb s1.1 o) f) (some (wSh W j))) cs_X3_init q_737 q_738 rfl dX4_fill_84 rfl rfl ⟨Nat.le_of_ble_eq_true rfl, Nat.le_of_ble_eq_true rfl⟩ (Nat.le_of_ble_eq_true rfl) ⟨by first | exact (show s1.2 + 1 + 0 ≤ 8 by omega) | exact (show 6 * s1.2 + 6 + 0 ≤ 48 by omega), by first | exact (show s1.2 + 1 + 0 ≤ 8 by omega) | exact (show 6 * s1.2 + 6 + 0 ≤ 48 by omega)⟩ (fun v84 S84 p84 => ?_) (fun _ x => x.elim)
            obtain ⟨rfl, e84⟩ := p84
            have hx84 : Ex S1 S84 x2 x2 x0 x0 := by
              rw [e84]
              refine Ex.tR ?_ (Or.inr hq62)
              refine Ex.tI ?_ (Or.inr hq62)
              refine Ex.tI ?_ (Or.inr hq62)
              refine Ex.tI ?_ (Or.inr hq62)
              refine Ex.tI ?_ (Or.inr hq62)
              exact Ex.tI hx62 (Or.inr hq62)
            have ky : KD S84 q62 3 := by rw [e84]; exact kd_newO
            have i96 : pI S84 96 q62 = nI o := by rw [e84]; simp [sI, sR, u2, pI]
            have i97 : pI S84 97 q62 = nI c := by rw [e84]; simp [sI, sR, u2, pI]
            have i98 : pI S84 98 q62 = nI f := by rw [e84]; simp [sI, sR, u2, pI]
            have i99 : pI S84 99 q62 = posA s1.1 (aOb s1.1 o) f := by rw [e84]; simp [sI, sR, u2, pI]
            have i101 : pI S84 101 q62 = 0 := by rw [e84]; simp [sI, sR, u2, pI]
            have r100 : pR S84 100 q62 = some (wSh W j) := by rw [e84]; simp [sI, sR, u2, pR]
            refine r_hge hC (fun hg84 => ?_)
            have hn84 := hn.ex0 hx84 hg84
            have hcp84 := (hn84.2.2.1.2.2.2 o hoo1).1.2.2.2.2.2.2.1 c hcc1
            obtain ⟨z1, z2, z3, z4, z5, z6, z7, z8, z9⟩ := hn84.2.2.2.1.2.2.2 j hj1
            have hu8 : unf (wSf W j) s1.2 < 8 := (unf_ok z5.2.2.2.2.2).1 _ h8
            have hem1 := hem s1.2 (Nat.le_refl _) h8
            have hlay := hn.lay (p := s1.2) (y := q62) (S2 := S84) hg84 hoo1 hcc1 hfl1 hhl hj1 h8 (hfd.trans m7.symm) (by rw [m7]; exact hem1) hx84 ky i96 i97 i98 i99 i101 r100
            refine r_astore hC dX4_fill_87 (by decide) ?_
            refine r_aload hC dX4_fill_89 rfl ?_
            refine r_aload hC dX4_fill_91 rfl ?_
            refine r_cVN (as := [va_rf (some q62)]) hC (c_take hzs hcp84 hf43 ky i98) cs_X1_take q_768 q_770 q_36 (hcp84.1) (by decide) rfl dX4_fill_93 rfl rfl ⟨Nat.le_of_ble_eq_true rfl, Nat.le_of_ble_eq_true rfl⟩ (Nat.le_of_ble_eq_true rfl) ⟨by first | exact (show s1.2 + 1 + 0 ≤ 8 by omega) | exact (show 6 * s1.2 + 6 + 0 ≤ 48 by omega), by first | exact (show s1.2 + 1 + 0 ≤ 8 by omega) | exact (show 6 * s1.2 + 6 + 0 ≤ 48 by omega)⟩ (fun v93 S93 p93 => ?_) (fun _ x => x.elim)
            obtain ⟨rfl, e93⟩ := p93
            rw [e93]
            refine r_aload_n hC dX4_fill_96 rfl rfl ?_
            refine r_aload hC dX4_fill_97 rfl ?_
            refine r_iload_n hC dX4_fill_99 rfl rfl ?_
            refine r_cVN (as := [va_rf (some q62), .int (nI s1.2)]) hC (c_lay hzs (s := wSh W j) (a := wSc W j) (d := wSd W j) (fa := wSa W j) (f := wSf W j) (p := s1.2) (y := q62) (show isSh _ _ _ from z1) z4 (show isFd _ _ _ _ from z5) h8 hu8 ky) cs_X6_lay q_772 q_774 q_37 (z1.1) (by decide) rfl dX4_fill_100 rfl rfl ⟨Nat.le_of_ble_eq_true rfl, Nat.le_of_ble_eq_true rfl⟩ (Nat.le_of_ble_eq_true rfl) ⟨by first | exact (show s1.2 + 1 + 0 ≤ 8 by omega) | exact (show 6 * s1.2 + 6 + 0 ≤ 48 by omega), by first | exact (show s1.2 + 1 + 0 ≤ 8 by omega) | exact (show 6 * s1.2 + 6 + 0 ≤ 48 by omega)⟩ (fun v100 S100 p100 => ?_) (fun _ x => x.elim)
            obtain ⟨rfl, e100⟩ := p100
            rw [e100]
            refine r_iinc hC dX4_fill_103 rfl (ii1 _) ?_
            refine r_iinc hC dX4_fill_106 rfl (ii1 _) ?_
            refine r_goto (tgt := 34) hC dX4_fill_109 (by decide) ?_
            refine ih (f + 1) _ _ (lay1 s1.1 j o c f s1.2, s1.2 + 1) (by omega) es2 ⟨hlay, hvf.lay hfl1, ?_, hsm.lay _ _ _ _ _, h8, fun p hp1 hp2 => ?_⟩
            · refine Ex.trM hex (YI := x2) (YR := x2) (YA := x0) (YB := fun _ => True) (Ex.tB (Ex.tB (hx84.mono (fun _ _ z => z) (fun _ _ z => z) (fun _ z => z) (fun _ z => z.elim)) (Or.inl trivial)) (Or.inl trivial)) (fun _ _ _ z => z) (fun _ _ _ z => z) (fun _ _ z => z) (fun _ _ _ => trivial)
            · show aLi (lay1 s1.1 j o c f s1.2) j (unf (aFd A) p) = 0
              have hp1' : s1.2 + 1 ≤ p := hp1
              rw [lay_i, if_neg, hem p (by omega) hp2]
              rintro ⟨-, z, -⟩
              rw [m7] at z
              have hok : okf (aFd A) := by rw [← m7]; exact hv.2.2.2.2.2.2.2.1
              have := (unf_ok hok).2.1 p s1.2 hp2 h8 z
              omega
  have copies : ∀ (d c : Nat) (S1 : PS) (o5 o6 o7 : Option Value) (s1 : AS × Nat), c + d = aNc A o → s1 = cpL j o len c s → IL G S0 tg W t nl j A S1 s1 →
      J G Z S1 s1.2 (6 * s1.2) 5 [some (va_rf (some (wOo W o))), some (va_rf (some (wSh W j))), some (.int (nI s.2)), some (.int (nI s1.2)), some (.int (nI c)), o5, o6, o7] [] := by
    intro d
    induction d with
    | zero =>
      intro c S1 o5 o6 o7 s1 hc es hI
      have hc : c = aNc A o := by omega
      subst hc
      obtain ⟨hn, hvf, hex, hsm, hp, hem⟩ := id hI
      obtain ⟨hv, hb, ho, hs, hr⟩ := id hn
      obtain ⟨m1, m2, m3, m4, m5, m6, m7⟩ := hsm.all
      have hoo1 : o < aNo s1.1 := by rw [m2]; exact hoo
      have hor := (ho.2.2.2 o hoo1).1
      have h3 := (hv.2.2.2.2.2.1 o hoo1).2.2
      refine r_iload hC dX4_fill_5 rfl ?_
      refine r_aload_n hC dX4_fill_7 rfl rfl ?_
      refine r_getR  hC fl_X4_12 dX4_fill_8 (hor.1) (hor.2.2.2.1) ?_
      refine r_cV (as := []) hC (c_size hzs hor.2.2.2.2.1.1) cs_Jx4a65c_size_8abf5 q_485 q_202 q_203 (hor.2.2.2.2.1.1) (by decide) rfl dX4_fill_11 rfl rfl ⟨Nat.le_of_ble_eq_true rfl, Nat.le_of_ble_eq_true rfl⟩ (Nat.le_of_ble_eq_true rfl) ⟨by first | exact (show s1.2 + 0 ≤ 8 by omega) | exact (show 6 * s1.2 + 0 ≤ 48 by omega), by first | exact (show s1.2 + 0 ≤ 8 by omega) | exact (show 6 * s1.2 + 0 ≤ 48 by omega)⟩ (fun v11 S11 p11 => ?_) (fun _ x => x.elim)
      obtain ⟨rfl, e11⟩ := p11
      rw [e11, hor.2.2.2.2.1.2.1, m5]
      refine r_icge (tgt := 118) hC dX4_fill_14 (by decide) (fun h14 => ?_) (fun h14 => ?_)
      · refine r_iload_n hC dX4_fill_118 rfl rfl ?_
        refine r_iret hC hQ rfl dX4_fill_119 (by first | exact (show s1.2 + 0 ≤ 8 by omega) | exact (show 6 * s1.2 + 0 ≤ 48 by omega)) (by first | exact (show s1.2 + 0 ≤ 8 by omega) | exact (show 6 * s1.2 + 0 ≤ 48 by omega)) ?_
        rw [← es]
        exact ⟨rfl, hI⟩
      · exact absurd (nI_le (Nat.le_refl _) (by rw [m5] at h3; omega)) h14
    | succ d ih =>
      intro c S1 o5 o6 o7 s1 hc es hI
      have hcn : c < aNc A o := by omega
      obtain ⟨hn, hvf, hex, hsm, hp, hem⟩ := id hI
      obtain ⟨hv, hb, ho, hs, hr⟩ := id hn
      obtain ⟨m1, m2, m3, m4, m5, m6, m7⟩ := hsm.all
      have hoo1 : o < aNo s1.1 := by rw [m2]; exact hoo
      have hor := (ho.2.2.2 o hoo1).1
      have h3 := (hv.2.2.2.2.2.1 o hoo1).2.2
      rw [m5] at h3
      have hcp := hor.2.2.2.2.2.2.1 c (by rw [m5]; exact hcn)
      refine r_iload hC dX4_fill_5 rfl ?_
      refine r_aload_n hC dX4_fill_7 rfl rfl ?_
      refine r_getR  hC fl_X4_12 dX4_fill_8 (hor.1) (hor.2.2.2.1) ?_
      refine r_cV (as := []) hC (c_size hzs hor.2.2.2.2.1.1) cs_Jx4a65c_size_8abf5 q_485 q_202 q_203 (hor.2.2.2.2.1.1) (by decide) rfl dX4_fill_11 rfl rfl ⟨Nat.le_of_ble_eq_true rfl, Nat.le_of_ble_eq_true rfl⟩ (Nat.le_of_ble_eq_true rfl) ⟨by first | exact (show s1.2 + 0 ≤ 8 by omega) | exact (show 6 * s1.2 + 0 ≤ 48 by omega), by first | exact (show s1.2 + 0 ≤ 8 by omega) | exact (show 6 * s1.2 + 0 ≤ 48 by omega)⟩ (fun v11 S11 p11 => ?_) (fun _ x => x.elim)
      obtain ⟨rfl, e11⟩ := p11
      rw [e11, hor.2.2.2.2.1.2.1, m5]
      refine r_icge (tgt := 118) hC dX4_fill_14 (by decide) (fun h14 => ?_) (fun h14 => ?_)
      · exact absurd ((nI_leI (by omega) (by omega)).mp h14) (by omega)
      · skip
        refine r_aload_n hC dX4_fill_17 rfl rfl ?_
        refine r_getR  hC fl_X4_12 dX4_fill_18 (hor.1) (hor.2.2.2.1) ?_
        refine r_iload hC dX4_fill_21 rfl ?_
        refine r_cV (as := [.int (nI c)]) hC (c_get hzs hor.2.2.2.2.1 (i := c) (by rw [m5]; exact hcn) (by rw [m5]; omega)) cs_Jx4a65c_get_915e3 q_486 q_206 q_207 (hor.2.2.2.2.1.1) (by decide) rfl dX4_fill_23 rfl rfl ⟨Nat.le_of_ble_eq_true rfl, Nat.le_of_ble_eq_true rfl⟩ (Nat.le_of_ble_eq_true rfl) ⟨by first | exact (show s1.2 + 0 ≤ 8 by omega) | exact (show 6 * s1.2 + 0 ≤ 48 by omega), by first | exact (show s1.2 + 0 ≤ 8 by omega) | exact (show 6 * s1.2 + 0 ≤ 48 by omega)⟩ (fun v23 S23 p23 => ?_) (fun _ x => x.elim)
        obtain ⟨rfl, e23⟩ := p23
        rw [e23]
        refine r_cast hC q_487 dX4_fill_26 hcp.1 (by decide) rfl ?_
        refine r_astore hC dX4_fill_29 (by decide) ?_
        refine r_iconst (v := nI 0) hC dX4_fill_31 (by decide) ?_
        refine r_istore hC dX4_fill_32 (by decide) ?_
        refine frames c s1 hcn (fun S2 o6' o7' hI2 => ?_) len 0 S1 o7 s1 (by omega) rfl hI
        refine r_iinc hC dX4_fill_112 rfl (ii1 _) ?_
        refine r_goto (tgt := 5) hC dX4_fill_115 (by decide) ?_
        refine ih (c + 1) S2 _ _ _ (frL j o c len s1) (by omega) ?_ hI2
        show _ = frL j o c len (cpL j o len c s)
        rw [← es]
  refine r_iload_n hC dX4_fill_0 rfl rfl ?_
  refine r_istore_n hC dX4_fill_1 rfl (by decide) ?_
  refine r_iconst (v := nI 0) hC dX4_fill_2 (by decide) ?_
  refine r_istore hC dX4_fill_3 (by decide) ?_
  exact copies (aNc A o) 0 S none none none s (by omega) rfl h
end FillA

