/-! ===== leaves as they are kept ===== -/
def lenQ (A : AS) (o c : Nat) : Nat := if aBd A o c = 0 then aLen A (aOb A o) else aBd A o c - 1
def hasB (A : AS) (o c f : Int32) : Bool := ixb o (aNo A) && ixb c (aNc A (ii o)) && ixb f (lenQ A (ii o) (ii c))
def oTrim (A : AS) (o c f : Int32) : OP := if hasB A o c f = true then (0, (if aHl A (ii o) (ii c) (ii f) = 1 then trV (aTr A (aLs A (ii o) (ii c) (ii f))) else -1), A) else (1, 0, A)
def oLeaf (A : AS) (o c f : Int32) : OP := if hasB A o c f = true then (0, (if aHl A (ii o) (ii c) (ii f) = 1 ∧ aTr A (aLs A (ii o) (ii c) (ii f)) ≠ 0 then aPos A (ii o) (ii c) (ii f) else -1), A) else (1, 0, A)
theorem trV_ne {t : Nat} (h : t ≤ 16) : trV t ≠ -1 ↔ t ≠ 0 := by
  unfold trV
  by_cases h0 : t = 0
  · rw [if_pos h0]; exact ⟨fun z => absurd rfl z, fun z => absurd h0 z⟩
  · rw [if_neg h0]
    refine ⟨fun _ => h0, fun _ z => ?_⟩
    have := nI_pos (n := t - 1) (by omega)
    rw [z] at this
    exact this (by decide)
theorem VU.lq {A : AS} (h : VU A) {o c : Nat} (ho : o < aNo A) : lenQ A o c ≤ 43 := by
  have h1 := h.len (h.2.2.2.2.2.1 o ho).1
  have h2 := h.2.2.2.2.2.2.1 o ho c
  unfold lenQ
  split <;> omega
section LeafA
variable {l : Launch} {G : GG} {S S' : PS} {tg : TG} {W : WT} {A : AS} {t nl : Nat}
theorem CP1.len {o c : Nat} (h : CP1 S tg W A o c) {b : Nat} (hb : pI S 5 b = nI (aLen A (aOb A o))) : (if pI S 33 (wCp W o c) = 0 then pI S 5 b else pI S 34 (wCp W o c)) = nI (lenQ A o c) := by
  unfold lenQ
  rcases h.2.2.1 with ⟨q1, q2⟩ | ⟨q1, q2, q3⟩
  · rw [if_pos q2, if_pos q1, hb]
  · rw [if_neg (by rw [q2]; decide), if_neg q1, q3]
set_option maxRecDepth 100000 in
set_option maxHeartbeats 1000000 in
theorem c_keptLeaf (hl : l.stackTraces = false) (h : CLn G S tg W A t nl) (o c f : Int32) :
    MT l G S yX7_keptLeaf cX7_keptLeaf 7 (some (.object "Thumbreel$Leaf")) (rmT 2 3 18) [va_rf (some t), .int o, .int c, .int f]
      (fun v S' => S' = S ∧ ∃ o' c' f', o = nI o' ∧ c = nI c' ∧ f = nI f' ∧ o' < aNo A ∧ c' < aNc A o' ∧ f' < lenQ A o' c' ∧ v = some (va_rf (if aHl A o' c' f' = 1 ∧ aTr A (aLs A o' c' f') ≠ 0 then pB S (wLv W o' c') f' else none)))
      (fun E => E = eIO ∧ hasB A o c f = false) := by
  obtain ⟨hv, hb, ho, hs, hr⟩ := h
  have h5 := hv.2.1
  refine MT_of (by decide +kernel) hl rfl (Nat.le_of_ble_eq_true rfl) (fun Z hC hzl hnm hT hQ => ?_)
  change J G Z S 0 0 0 [some (va_rf (some t)), some (.int o), some (.int c), some (.int f), none, none, none] []
  have hzs : (zl Z).stackTraces = false := by rw [hzl]; exact hl
  refine r_aload_n hC dX7_keptLeaf_0 rfl rfl ?_
  refine r_iload_n hC dX7_keptLeaf_1 rfl rfl ?_
  refine r_cV (as := [.int o]) hC (c_orderNumbered hzs hr.1 hr.2.2.1 ho.1 h5 o) cs_X7_orderNumbered q_592 q_594 q_18 (hr.1) (by decide) rfl dX7_keptLeaf_2 rfl rfl ⟨Nat.le_of_ble_eq_true rfl, Nat.le_of_ble_eq_true rfl⟩ (Nat.le_of_ble_eq_true rfl) ⟨Nat.le_of_ble_eq_true rfl, Nat.le_of_ble_eq_true rfl⟩ (fun v2 S2 p2 => ?_) (fun E2 x2 => ?_)
  · obtain ⟨j, hj, rfl, rfl, e2⟩ := p2
    rw [e2]
    obtain ⟨g1, g2, g3, g4, g5⟩ := ho.2.2.2 j hj
    have q1 : ixb (nI j) (aNo A) = true := ixb_t hj (by omega)
    have q2 : ii (nI j) = j := ii_n (by omega)
    have h3 := (hv.2.2.2.2.2.1 j hj).2.2
    have hob := (hv.2.2.2.2.2.1 j hj).1
    refine r_astore hC dX7_keptLeaf_5 (by decide) ?_
    refine r_aload hC dX7_keptLeaf_7 rfl ?_
    refine r_iload_n hC dX7_keptLeaf_9 rfl rfl ?_
    refine r_cS (as := [va_rf (some (wOo W j)), .int c]) hC (c_copyNumbered hzs g1.1 g1.2.2.2.1 g1.2.2.2.2.1 h3 c) cs_X7_copyNumbered q_846 q_847 dX7_keptLeaf_10 rfl rfl ⟨Nat.le_of_ble_eq_true rfl, Nat.le_of_ble_eq_true rfl⟩ (Nat.le_of_ble_eq_true rfl) ⟨Nat.le_of_ble_eq_true rfl, Nat.le_of_ble_eq_true rfl⟩ (fun v10 S10 p10 => ?_) (fun E10 x10 => ?_)
    · obtain ⟨k, hk, rfl, rfl, e10⟩ := p10
      rw [e10]
      have hcp := g1.2.2.2.2.2.2.1 k hk
      have hc1 := g5 k hk
      have q3 : ixb (nI k) (aNc A j) = true := ixb_t hk (by omega)
      have q4 : ii (nI k) = k := ii_n (by omega)
      have hlq := hv.lq (c := k) hj
      refine r_astore hC dX7_keptLeaf_13 (by decide) ?_
      refine r_iload_n hC dX7_keptLeaf_15 rfl rfl ?_
      refine r_aload hC dX7_keptLeaf_16 rfl ?_
      refine r_aload hC dX7_keptLeaf_18 rfl ?_
      refine r_cVN (as := [va_rf (some (wCp W j k))]) hC (c_lengthOf hzs g1.1 g1.2.1 g1.2.2.1 hcp.1) cs_X4_lengthOf q_886 q_888 q_47 (g1.1) (by decide) rfl dX7_keptLeaf_20 rfl rfl ⟨Nat.le_of_ble_eq_true rfl, Nat.le_of_ble_eq_true rfl⟩ (Nat.le_of_ble_eq_true rfl) ⟨Nat.le_of_ble_eq_true rfl, Nat.le_of_ble_eq_true rfl⟩ (fun v20 S20 p20 => ?_) (fun _ x => x.elim)
      obtain ⟨rfl, e20⟩ := p20
      rw [e20, hc1.len (hb.2.2.2 _ hob).2.2.2.2.2.2.2.1]
      refine r_cS (as := [.int f, .int (nI (lenQ A j k))]) hC (c_checkIndex hzs f (m := lenQ A j k) (by omega)) cs_X7_checkIndex q_412 q_413 dX7_keptLeaf_23 rfl rfl ⟨Nat.le_of_ble_eq_true rfl, Nat.le_of_ble_eq_true rfl⟩ (Nat.le_of_ble_eq_true rfl) ⟨Nat.le_of_ble_eq_true rfl, Nat.le_of_ble_eq_true rfl⟩ (fun v23 S23 p23 => ?_) (fun E23 x23 => ?_)
      · obtain ⟨rfl, e23, m, hm, rfl⟩ := p23
        rw [e23]
        have hm43 : m < 43 := by omega
        have hend : ∀ v, v = some (va_rf (if aHl A j k m = 1 ∧ aTr A (aLs A j k m) ≠ 0 then pB S (wLv W j k) m else none)) → (S = S ∧ ∃ o' c' f', nI j = nI o' ∧ nI k = nI c' ∧ nI m = nI f' ∧ o' < aNo A ∧ c' < aNc A o' ∧ f' < lenQ A o' c' ∧ v = some (va_rf (if aHl A o' c' f' = 1 ∧ aTr A (aLs A o' c' f') ≠ 0 then pB S (wLv W o' c') f' else none))) := fun v e => ⟨rfl, j, k, m, rfl, rfl, rfl, hj, hk, hm, e⟩
        refine r_aload hC dX7_keptLeaf_26 rfl ?_
        refine r_iload_n hC dX7_keptLeaf_28 rfl rfl ?_
        refine r_cVN (as := [.int (nI m)]) hC (c_leafOf hzs hcp hm43) cs_X1_leafOf q_890 q_610 q_22 (hcp.1) (by decide) rfl dX7_keptLeaf_29 rfl rfl ⟨Nat.le_of_ble_eq_true rfl, Nat.le_of_ble_eq_true rfl⟩ (Nat.le_of_ble_eq_true rfl) ⟨Nat.le_of_ble_eq_true rfl, Nat.le_of_ble_eq_true rfl⟩ (fun v29 S29 p29 => ?_) (fun _ x => x.elim)
        obtain ⟨rfl, e29⟩ := p29
        rw [e29]
        rcases hc1.2.2.2 m hm43 with ⟨z1, z2⟩ | ⟨d0, y, hy, d1, d2, d3, d4, d5, d6, x, hx, d7⟩
        · rw [z2]
          refine r_astore hC dX7_keptLeaf_32 (by decide) ?_
          refine r_aload hC dX7_keptLeaf_34 rfl ?_
          refine r_ifnull (tgt := 55) hC dX7_keptLeaf_36 (by decide) (fun h36 => ?_) (fun z36 h36 => ?_)
          · refine r_null hC dX7_keptLeaf_55 ?_
            refine r_aret hC hQ rfl (by first | exact Or.inl ⟨_, rfl⟩ | exact Or.inr ⟨_, rfl⟩) dX7_keptLeaf_56 (Nat.le_of_ble_eq_true rfl) (Nat.le_of_ble_eq_true rfl) ?_
            exact hend _ (by rw [if_neg (fun z => by omega)])
          · cases h36
        · rw [hy]
          obtain ⟨s1, s2, s3, s4, s5, s6, s7, s8, s9⟩ := hs.2.2.2 _ d2
          have ky := (hcp.2.2.2.2.1 m hm43 y hy).1.1
          have ht16 := (hv.2.2.2.2.2.2.2.2.1 _ d2).2.1
          refine r_astore hC dX7_keptLeaf_32 (by decide) ?_
          refine r_aload hC dX7_keptLeaf_34 rfl ?_
          refine r_ifnull (tgt := 55) hC dX7_keptLeaf_36 (by decide) (fun h36 => ?_) (fun z36 h36 => ?_)
          · cases h36
          · skip
            refine r_aload hC dX7_keptLeaf_39 rfl ?_
            refine r_getR  hC fl_X7_238 dX7_keptLeaf_41 (ky) (d3) ?_
            refine r_cVN (as := []) hC (c_isCut hzs s1.1) cs_X6_isCut q_891 q_856 q_43 (s1.1) (by decide) rfl dX7_keptLeaf_44 rfl rfl ⟨Nat.le_of_ble_eq_true rfl, Nat.le_of_ble_eq_true rfl⟩ (Nat.le_of_ble_eq_true rfl) ⟨Nat.le_of_ble_eq_true rfl, Nat.le_of_ble_eq_true rfl⟩ (fun v44 S44 p44 => ?_) (fun _ x => x.elim)
            obtain ⟨rfl, e44⟩ := p44
            rw [e44, s8]
            refine r_ifeq (tgt := 55) hC dX7_keptLeaf_47 (by decide) (fun h47 => ?_) (fun h47 => ?_)
            · have h0 : aTr A (aLs A j k m) = 0 := by
                refine Classical.byContradiction (fun z => ?_)
                rw [decide_eq_true ((trV_ne ht16).mpr z)] at h47
                exact absurd h47 (by decide)
              refine r_null hC dX7_keptLeaf_55 ?_
              refine r_aret hC hQ rfl (by first | exact Or.inl ⟨_, rfl⟩ | exact Or.inr ⟨_, rfl⟩) dX7_keptLeaf_56 (Nat.le_of_ble_eq_true rfl) (Nat.le_of_ble_eq_true rfl) ?_
              exact hend _ (by rw [if_neg (fun z => z.2 h0)])
            · have h0 : aTr A (aLs A j k m) ≠ 0 := by
                intro z
                rw [z] at h47
                exact h47 rfl
              refine r_aload hC dX7_keptLeaf_50 rfl ?_
              refine r_goto (tgt := 56) hC dX7_keptLeaf_52 (by decide) ?_
              refine r_aret hC hQ rfl (by first | exact Or.inl ⟨_, rfl⟩ | exact Or.inr ⟨_, rfl⟩) dX7_keptLeaf_56 (Nat.le_of_ble_eq_true rfl) (Nat.le_of_ble_eq_true rfl) ?_
              exact hend _ (by rw [if_pos ⟨d0, h0⟩, hy])
      · refine r_out hC hQ hT (Nat.le_of_ble_eq_true rfl) (Nat.le_of_ble_eq_true rfl) ⟨x23.1, ?_⟩
        unfold hasB
        rw [q1, q2, q3, q4, ixb_f x23.2]
        rfl
    · refine r_out hC hQ hT (Nat.le_of_ble_eq_true rfl) (Nat.le_of_ble_eq_true rfl) ⟨x10.1, ?_⟩
      unfold hasB
      rw [q1, q2, ixb_f x10.2]
      rfl
  · refine r_out hC hQ hT (Nat.le_of_ble_eq_true rfl) (Nat.le_of_ble_eq_true rfl) ⟨x2.1, ?_⟩
    unfold hasB
    rw [ixb_f x2.2]
    rfl
theorem hasB_t {o c f : Nat} (h : VU A) (ho : o < aNo A) (hc : c < aNc A o) (hf : f < lenQ A o c) : hasB A (nI o) (nI c) (nI f) = true ∧ ii (nI o) = o ∧ ii (nI c) = c ∧ ii (nI f) = f := by
  have h5 := h.2.1
  have h3 := (h.2.2.2.2.2.1 o ho).2.2
  have h43 := h.lq (c := c) ho
  have q2 : ii (nI o) = o := ii_n (by omega)
  have q4 : ii (nI c) = c := ii_n (by omega)
  refine ⟨?_, q2, q4, ii_n (by omega)⟩
  unfold hasB
  rw [q2, q4, ixb_t ho (by omega), ixb_t hc (by omega), ixb_t hf (by omega)]
  rfl
set_option maxRecDepth 100000 in
theorem c_trim (hl : l.stackTraces = false) (h : CL G S tg W A t) (o c f : Int32) :
    MT l G S yX7_trim cX7_trim 5 (some .int) (rmT 3 3 18) [va_rf (some t), .int o, .int c, .int f] (EN G S tg t (oTrim A o c f)) (XO A (oTrim A o c f) [eIO]) := by
  obtain ⟨⟨hv, hb, ho, hs, hr⟩, hF⟩ := id h
  refine MT_of (by decide +kernel) hl rfl (Nat.le_of_ble_eq_true rfl) (fun Z hC hzl hnm hT hQ => ?_)
  change J G Z S 0 0 0 [some (va_rf (some t)), some (.int o), some (.int c), some (.int f), none] []
  have hzs : (zl Z).stackTraces = false := by rw [hzl]; exact hl
  refine r_aload_n hC dX7_trim_0 rfl rfl ?_
  refine r_iload_n hC dX7_trim_1 rfl rfl ?_
  refine r_iload_n hC dX7_trim_2 rfl rfl ?_
  refine r_iload_n hC dX7_trim_3 rfl rfl ?_
  refine r_cV (as := [.int o, .int c, .int f]) hC (c_keptLeaf hzs h.1 o c f) cs_X7_keptLeaf q_882 q_884 q_46 (hr.1) (by decide) rfl dX7_trim_4 rfl rfl ⟨Nat.le_of_ble_eq_true rfl, Nat.le_of_ble_eq_true rfl⟩ (Nat.le_of_ble_eq_true rfl) ⟨Nat.le_of_ble_eq_true rfl, Nat.le_of_ble_eq_true rfl⟩ (fun v4 S4 p4 => ?_) (fun E4 x4 => ?_)
  · obtain ⟨e4, o', c', f', rfl, rfl, rfl, hoo, hcc, hff, rfl⟩ := p4
    rw [e4]
    obtain ⟨w1, w2, w3, w4⟩ := hasB_t hv hoo hcc hff
    have h43 : f' < 43 := Nat.lt_of_lt_of_le hff (hv.lq hoo)
    obtain ⟨g1, g2, g3, g4, g5⟩ := ho.2.2.2 o' hoo
    have e : oTrim A (nI o') (nI c') (nI f') = (0, (if aHl A o' c' f' = 1 then trV (aTr A (aLs A o' c' f')) else -1), A) := by unfold oTrim; rw [if_pos w1, w2, w3, w4]
    rw [e] at hQ
    have hcp := g1.2.2.2.2.2.2.1 c' hcc
    rcases (g5 c' hcc).2.2.2 f' h43 with ⟨z1, z2⟩ | ⟨d0, y, hy, d1, d2, d3, d4, d5, d6, x, hx, d7⟩
    · have hne : ¬ aHl A o' c' f' = 1 := by omega
      rw [if_neg hne] at hQ
      rw [if_neg (fun z => hne z.1)]
      refine r_astore hC dX7_trim_7 (by decide) ?_
      refine r_aload hC dX7_trim_9 rfl ?_
      refine r_ifnonnull (tgt := 18) hC dX7_trim_11 (by decide) (fun z11 h11 => ?_) (fun h11 => ?_)
      · cases h11
      · refine r_iconst (v := (-1)) hC dX7_trim_14 (by decide) ?_
        refine r_goto (tgt := 26) hC dX7_trim_15 (by decide) ?_
        refine r_iret hC hQ rfl dX7_trim_26 (Nat.le_of_ble_eq_true rfl) (Nat.le_of_ble_eq_true rfl) ?_
        exact ⟨rfl, rfl, tg, W, h, FrC.rf⟩
    · obtain ⟨s1, s2, s3, s4, s5, s6, s7, s8, s9⟩ := hs.2.2.2 _ d2
      have ky := (hcp.2.2.2.2.1 f' h43 y hy).1.1
      rw [if_pos d0] at hQ
      by_cases h0 : aTr A (aLs A o' c' f') = 0
      · rw [if_neg (fun z => z.2 h0)]
        refine r_astore hC dX7_trim_7 (by decide) ?_
        refine r_aload hC dX7_trim_9 rfl ?_
        refine r_ifnonnull (tgt := 18) hC dX7_trim_11 (by decide) (fun z11 h11 => ?_) (fun h11 => ?_)
        · cases h11
        · refine r_iconst (v := (-1)) hC dX7_trim_14 (by decide) ?_
          refine r_goto (tgt := 26) hC dX7_trim_15 (by decide) ?_
          refine r_iret hC hQ rfl dX7_trim_26 (Nat.le_of_ble_eq_true rfl) (Nat.le_of_ble_eq_true rfl) ?_
          rw [h0]
          exact ⟨rfl, rfl, tg, W, h, FrC.rf⟩
      · rw [if_pos ⟨d0, h0⟩, hy]
        refine r_astore hC dX7_trim_7 (by decide) ?_
        refine r_aload hC dX7_trim_9 rfl ?_
        refine r_ifnonnull (tgt := 18) hC dX7_trim_11 (by decide) (fun z11 h11 => ?_) (fun h11 => ?_)
        rotate_left
        · cases h11
        · skip
          refine r_aload hC dX7_trim_18 rfl ?_
          refine r_getR  hC fl_X7_238 dX7_trim_20 (ky) (d3) ?_
          refine r_getI hC fl_X7_242 rfl dX7_trim_23 (s1.1) (s8) ?_
          refine r_iret hC hQ rfl dX7_trim_26 (Nat.le_of_ble_eq_true rfl) (Nat.le_of_ble_eq_true rfl) ?_
          exact ⟨rfl, rfl, tg, W, h, FrC.rf⟩
  · refine r_out hC hQ hT (Nat.le_of_ble_eq_true rfl) (Nat.le_of_ble_eq_true rfl) ⟨0, ?_, by rw [x4.1]; rfl⟩
    unfold oTrim
    rw [if_neg (by rw [x4.2]; decide)]
set_option maxRecDepth 100000 in
theorem c_leaf (hl : l.stackTraces = false) (h : CL G S tg W A t) (o c f : Int32) :
    MT l G S yX7_leaf cX7_leaf 5 (some .int) (rmT 3 3 18) [va_rf (some t), .int o, .int c, .int f] (EN G S tg t (oLeaf A o c f)) (XO A (oLeaf A o c f) [eIO]) := by
  obtain ⟨⟨hv, hb, ho, hs, hr⟩, hF⟩ := id h
  refine MT_of (by decide +kernel) hl rfl (Nat.le_of_ble_eq_true rfl) (fun Z hC hzl hnm hT hQ => ?_)
  change J G Z S 0 0 0 [some (va_rf (some t)), some (.int o), some (.int c), some (.int f), none] []
  have hzs : (zl Z).stackTraces = false := by rw [hzl]; exact hl
  refine r_aload_n hC dX7_leaf_0 rfl rfl ?_
  refine r_iload_n hC dX7_leaf_1 rfl rfl ?_
  refine r_iload_n hC dX7_leaf_2 rfl rfl ?_
  refine r_iload_n hC dX7_leaf_3 rfl rfl ?_
  refine r_cV (as := [.int o, .int c, .int f]) hC (c_keptLeaf hzs h.1 o c f) cs_X7_keptLeaf q_882 q_884 q_46 (hr.1) (by decide) rfl dX7_leaf_4 rfl rfl ⟨Nat.le_of_ble_eq_true rfl, Nat.le_of_ble_eq_true rfl⟩ (Nat.le_of_ble_eq_true rfl) ⟨Nat.le_of_ble_eq_true rfl, Nat.le_of_ble_eq_true rfl⟩ (fun v4 S4 p4 => ?_) (fun E4 x4 => ?_)
  · obtain ⟨e4, o', c', f', rfl, rfl, rfl, hoo, hcc, hff, rfl⟩ := p4
    rw [e4]
    obtain ⟨w1, w2, w3, w4⟩ := hasB_t hv hoo hcc hff
    have h43 : f' < 43 := Nat.lt_of_lt_of_le hff (hv.lq hoo)
    obtain ⟨g1, g2, g3, g4, g5⟩ := ho.2.2.2 o' hoo
    have e : oLeaf A (nI o') (nI c') (nI f') = (0, (if aHl A o' c' f' = 1 ∧ aTr A (aLs A o' c' f') ≠ 0 then aPos A o' c' f' else -1), A) := by unfold oLeaf; rw [if_pos w1, w2, w3, w4]
    rw [e] at hQ
    have hcp := g1.2.2.2.2.2.2.1 c' hcc
    by_cases hk : aHl A o' c' f' = 1 ∧ aTr A (aLs A o' c' f') ≠ 0
    · rcases (g5 c' hcc).2.2.2 f' h43 with ⟨z1, z2⟩ | ⟨d0, y, hy, d1, d2, d3, d4, d5, d6, x, hx, d7⟩
      · exact absurd hk.1 (by omega)
      · have ky := (hcp.2.2.2.2.1 f' h43 y hy).1.1
        rw [if_pos hk] at hQ
        rw [if_pos hk, hy]
        refine r_astore hC dX7_leaf_7 (by decide) ?_
        refine r_aload hC dX7_leaf_9 rfl ?_
        refine r_ifnonnull (tgt := 18) hC dX7_leaf_11 (by decide) (fun z11 h11 => ?_) (fun h11 => ?_)
        rotate_left
        · cases h11
        · skip
          refine r_aload hC dX7_leaf_18 rfl ?_
          refine r_getI hC fl_X7_245 rfl dX7_leaf_20 (ky) (d1.symm) ?_
          refine r_iret hC hQ rfl dX7_leaf_23 (Nat.le_of_ble_eq_true rfl) (Nat.le_of_ble_eq_true rfl) ?_
          exact ⟨rfl, rfl, tg, W, h, FrC.rf⟩
    · rw [if_neg hk] at hQ
      rw [if_neg hk]
      refine r_astore hC dX7_leaf_7 (by decide) ?_
      refine r_aload hC dX7_leaf_9 rfl ?_
      refine r_ifnonnull (tgt := 18) hC dX7_leaf_11 (by decide) (fun z11 h11 => ?_) (fun h11 => ?_)
      · cases h11
      · refine r_iconst (v := (-1)) hC dX7_leaf_14 (by decide) ?_
        refine r_goto (tgt := 23) hC dX7_leaf_15 (by decide) ?_
        refine r_iret hC hQ rfl dX7_leaf_23 (Nat.le_of_ble_eq_true rfl) (Nat.le_of_ble_eq_true rfl) ?_
        exact ⟨rfl, rfl, tg, W, h, FrC.rf⟩
  · refine r_out hC hQ hT (Nat.le_of_ble_eq_true rfl) (Nat.le_of_ble_eq_true rfl) ⟨0, ?_, by rw [x4.1]; rfl⟩
    unfold oLeaf
    rw [if_neg (by rw [x4.2]; decide)]
set_option maxRecDepth 100000 in
set_option maxHeartbeats 1000000 in
theorem c_findInPile (hl : l.stackTraces = false) (h : CLn G S tg W A t nl) {j o c f : Nat} (hj : j < aNs A) (hoo : o < aNo A) (hcc : c < aNc A o) (hf : f < 43) :
    MT l G S yX7_findInPile cX7_findInPile 7 (some (.object "Thumbreel$Leaf")) (rmA 4) [va_rf (some t), va_rf (some (wSh W j)), .int (nI o), .int (nI c), .int (nI f)]
      (fun v S' => v = some (va_rf (if aHl A o c f = 1 ∧ aLs A o c f = j then pB S (wLv W o c) f else none)) ∧ ExP S S' (wPi W) (wAc W) (wAh W)) (fun _ => False) := by
  obtain ⟨hv, hb, ho, hs, hr⟩ := id h
  have h5 := hv.2.1
  have h3 := (hv.2.2.2.2.2.1 o hoo).2.2
  refine MT_of (by decide +kernel) hl rfl (Nat.le_of_ble_eq_true rfl) (fun Z hC hzl hnm hT hQ => ?_)
  change J G Z S 0 0 0 [some (va_rf (some t)), some (va_rf (some (wSh W j))), some (.int (nI o)), some (.int (nI c)), some (.int (nI f)), none, none] []
  have hzs : (zl Z).stackTraces = false := by rw [hzl]; exact hl
  obtain ⟨kt, r0, r1, r2, r3, r4, r5, r6, i1, i2, ku, nu, tu, kd, nd, td, hd, hp, tc, th, hfd, tf⟩ := id hr
  obtain ⟨s1, s2, s3, s4, s5, s6, s7, s8, s9⟩ := hs.2.2.2 j hj
  have hok := s5.2.2.2.2.2
  refine r_aload_n hC dX7_findInPile_0 rfl rfl ?_
  refine r_getR  hC fl_X7_32 dX7_findInPile_1 (kt) (r5) ?_
  refine r_aload_n hC dX7_findInPile_4 rfl rfl ?_
  refine r_getR  hC fl_X7_277 dX7_findInPile_5 (s1.1) (s4) ?_
  refine r_cVN (as := [va_rf (some (wSd W j))]) hC (c_foldAll hzs hp s5 (fun z => by rw [z] at s6; omega) (fun z => by rw [z] at s6; omega)) cs_X5_foldAll q_658 q_660 q_25 (hp.1) (by decide) rfl dX7_findInPile_8 rfl rfl ⟨Nat.le_of_ble_eq_true rfl, Nat.le_of_ble_eq_true rfl⟩ (Nat.le_of_ble_eq_true rfl) ⟨Nat.le_of_ble_eq_true rfl, Nat.le_of_ble_eq_true rfl⟩ (fun v8 S8 p8 => ?_) (fun _ x => x.elim)
  obtain ⟨rfl, hpr, hx⟩ := p8
  refine r_hge hC (fun hg8 => ?_)
  have hn8 := h.pi hg8 hx
  have kt8 := hx.kd kt
  have r58 : pR S8 229 t = some (wPi W) := ((hx t kt.1).2.2.2.2.1 229 (fun z => z)).trans r5
  have hp8 := hp.ex hx
  have klv := (ho.lv o c hoo hcc).1
  have eLv : pB S8 (wLv W o c) = pB S (wLv W o c) := (hx _ klv).2.2.2.2.2.2.1 (fun z => z)
  obtain ⟨hv8, hb8, ho8, hs8, hr8⟩ := id hn8
  obtain ⟨z1, z2, z3, z4, z5, z6, z7, z8, z9⟩ := hs8.2.2.2 j hj
  have cp1 := (ho8.2.2.2 o hoo).2.2.2.2 c hcc
  have loop : ∀ (d i : Nat) (o6 : Option Value), i + d = 8 → (∀ i', i' < i → ∀ y, pB S8 (wSc W j) (unf (wSf W j) i') = some y → ¬ (pI S8 101 y = 0 ∧ pI S8 96 y = nI o ∧ pI S8 97 y = nI c ∧ pI S8 98 y = nI f)) →
      J G Z S8 0 0 14 [some (va_rf (some t)), some (va_rf (some (wSh W j))), some (.int (nI o)), some (.int (nI c)), some (.int (nI f)), some (.int (nI i)), o6] [] := by
    intro d
    induction d with
    | zero =>
      intro i o6 hi hn
      have hi : i = 8 := by omega
      subst hi
      refine r_iload hC dX7_findInPile_14 rfl ?_
      refine r_bipush (v := nI 8) hC dX7_findInPile_16 (by decide) ?_
      refine r_icge (tgt := 70) hC dX7_findInPile_18 (by decide) (fun h18 => ?_) (fun h18 => ?_)
      · refine r_null hC dX7_findInPile_70 ?_
        refine r_aret hC hQ rfl (by first | exact Or.inl ⟨_, rfl⟩ | exact Or.inr ⟨_, rfl⟩) dX7_findInPile_71 (Nat.le_of_ble_eq_true rfl) (Nat.le_of_ble_eq_true rfl) ?_
        refine ⟨?_, hx⟩
        rw [if_neg]
        rintro ⟨w1, w2⟩
        rcases cp1.2.2.2 f hf with ⟨z, -⟩ | ⟨d0, y, hy, d1, d2, d3, d4, d5, d6, x, hx8, d7⟩
        · omega
        · rw [w2] at d7
          obtain ⟨p, hp8', e⟩ := (unf_ok hok).2.2 x hx8
          refine hn p hp8' y (by rw [e]; exact d7) ⟨d6, d4, d5, ?_⟩
          have := ((ho8.2.2.2 o hoo).1.2.2.2.2.2.2.1 c hcc).2.2.2.2.1 f hf y hy
          exact this.2
      · exact absurd (show nI 8 ≤ nI 8 from Int32.le_refl _) h18
    | succ d ih =>
      intro i o6 hi hn
      have hi8 : i < 8 := by omega
      have hu := (unf_ok hok).1 i hi8
      refine r_iload hC dX7_findInPile_14 rfl ?_
      refine r_bipush (v := nI 8) hC dX7_findInPile_16 (by decide) ?_
      refine r_icge (tgt := 70) hC dX7_findInPile_18 (by decide) (fun h18 => ?_) (fun h18 => ?_)
      · exact absurd ((nI_leI (by omega) (by omega)).mp h18) (by omega)
      · skip
        refine r_aload_n hC dX7_findInPile_21 rfl rfl ?_
        refine r_aload_n hC dX7_findInPile_22 rfl rfl ?_
        refine r_getR  hC fl_X7_32 dX7_findInPile_23 (kt8) (r58) ?_
        refine r_iload hC dX7_findInPile_26 rfl ?_
        refine r_cVN (as := [.int (nI i)]) hC (c_cellAt hzs hp8 hok hpr hi8) cs_X5_cellAt q_682 q_684 q_31 (hp8.1) (by decide) rfl dX7_findInPile_28 rfl rfl ⟨Nat.le_of_ble_eq_true rfl, Nat.le_of_ble_eq_true rfl⟩ (Nat.le_of_ble_eq_true rfl) ⟨Nat.le_of_ble_eq_true rfl, Nat.le_of_ble_eq_true rfl⟩ (fun v28 S28 p28 => ?_) (fun _ x => x.elim)
        obtain ⟨rfl, e28⟩ := p28
        rw [e28]
        refine r_cVN (as := [.int (nI (unf (wSf W j) i))]) hC (c_leafIn hzs z1 hu) cs_X6_leafIn q_801 q_803 q_38 (z1.1) (by decide) rfl dX7_findInPile_31 rfl rfl ⟨Nat.le_of_ble_eq_true rfl, Nat.le_of_ble_eq_true rfl⟩ (Nat.le_of_ble_eq_true rfl) ⟨Nat.le_of_ble_eq_true rfl, Nat.le_of_ble_eq_true rfl⟩ (fun v31 S31 p31 => ?_) (fun _ x => x.elim)
        obtain ⟨rfl, e31⟩ := p31
        rw [e31]
        have next : ∀ o6', (∀ y, pB S8 (wSc W j) (unf (wSf W j) i) = some y → ¬ (pI S8 101 y = 0 ∧ pI S8 96 y = nI o ∧ pI S8 97 y = nI c ∧ pI S8 98 y = nI f)) →
            J G Z S8 0 0 64 [some (va_rf (some t)), some (va_rf (some (wSh W j))), some (.int (nI o)), some (.int (nI c)), some (.int (nI f)), some (.int (nI i)), o6'] [] := by
          intro o6' hno
          refine r_iinc hC dX7_findInPile_64 rfl (ii1 _) ?_
          refine r_goto (tgt := 14) hC dX7_findInPile_67 (by decide) ?_
          refine ih (i + 1) o6' (by omega) (fun i' hi' => ?_)
          rcases Nat.lt_or_ge i' i with w | w
          · exact hn i' w
          · have : i' = i := by omega
            subst this
            exact hno
        rcases z9 _ hu with ⟨-, w2⟩ | ⟨y, o', c', f', hy, ky, ry, h101, hoo', hcc', hff', w1, w2, w3, w4, w5⟩
        · rw [w2]
          refine r_astore hC dX7_findInPile_34 (by decide) ?_
          refine r_aload hC dX7_findInPile_36 rfl ?_
          refine r_ifnull (tgt := 64) hC dX7_findInPile_38 (by decide) (fun h38 => ?_) (fun z38 h38 => ?_)
          · exact next _ (fun y hy => by rw [w2] at hy; cases hy)
          · cases h38
        · rw [hy]
          refine r_astore hC dX7_findInPile_34 (by decide) ?_
          refine r_aload hC dX7_findInPile_36 rfl ?_
          refine r_ifnull (tgt := 64) hC dX7_findInPile_38 (by decide) (fun h38 => ?_) (fun z38 h38 => ?_)
          · cases h38
          · skip
            refine r_aload hC dX7_findInPile_41 rfl ?_
            refine r_getI hC fl_X7_278 rfl dX7_findInPile_43 (ky) (rfl) ?_
            refine r_ifne (tgt := 64) hC dX7_findInPile_46 (by decide) (fun h46 => ?_) (fun h46 => ?_)
            · refine next _ (fun y' hy' hz => ?_)
              rw [hy] at hy'
              cases hy'
              exact h46 hz.1
            · skip
              refine r_aload hC dX7_findInPile_49 rfl ?_
              refine r_iload_n hC dX7_findInPile_51 rfl rfl ?_
              refine r_iload_n hC dX7_findInPile_52 rfl rfl ?_
              refine r_iload hC dX7_findInPile_53 rfl ?_
              refine r_cVN (as := [.int (nI o), .int (nI c), .int (nI f)]) hC (c_belongsTo hzs ky (nI o) (nI c) (nI f)) cs_X3_belongsTo q_910 q_912 q_49 (ky) (by decide) rfl dX7_findInPile_55 rfl rfl ⟨Nat.le_of_ble_eq_true rfl, Nat.le_of_ble_eq_true rfl⟩ (Nat.le_of_ble_eq_true rfl) ⟨Nat.le_of_ble_eq_true rfl, Nat.le_of_ble_eq_true rfl⟩ (fun v55 S55 p55 => ?_) (fun _ x => x.elim)
              obtain ⟨rfl, e55⟩ := p55
              rw [e55]
              refine r_ifeq (tgt := 64) hC dX7_findInPile_58 (by decide) (fun h58 => ?_) (fun h58 => ?_)
              · refine next _ (fun y' hy' hz => ?_)
                rw [hy] at hy'
                cases hy'
                rw [decide_eq_true hz.2] at h58
                exact absurd h58 (by decide)
              · have hz : pI S8 96 y = nI o ∧ pI S8 97 y = nI c ∧ pI S8 98 y = nI f := Classical.byContradiction (fun w => h58 (by rw [decide_eq_false w]; rfl))
                have h3' := (hv.2.2.2.2.2.1 o' hoo').2.2
                have eo : o' = o := (nI_eq (by omega) (by omega)).mp (w1.symm.trans hz.1)
                have ec : c' = c := (nI_eq (by omega) (by omega)).mp (w2.symm.trans hz.2.1)
                have ef : f' = f := (nI_eq (by omega) (by omega)).mp (w3.symm.trans hz.2.2)
                subst eo
                subst ec
                subst ef
                have hl8 := w5 h46
                refine r_aload hC dX7_findInPile_61 rfl ?_
                refine r_aret hC hQ rfl (by first | exact Or.inl ⟨_, rfl⟩ | exact Or.inr ⟨_, rfl⟩) dX7_findInPile_63 (Nat.le_of_ble_eq_true rfl) (Nat.le_of_ble_eq_true rfl) ?_
                refine ⟨?_, hx⟩
                rw [eLv] at hl8
                rcases cp1.2.2.2 f' hf with ⟨-, z⟩ | ⟨d0, y2, hy2, d1, d2, d3, -⟩
                · rw [eLv, hl8] at z; cases z
                · rw [eLv, hl8] at hy2
                  cases hy2
                  rw [ry] at d3
                  rw [if_pos ⟨d0, (hs8.inj hj d2 (Option.some.inj d3)).symm⟩, hl8]
  refine r_iconst (v := nI 0) hC dX7_findInPile_11 (by decide) ?_
  refine r_istore hC dX7_findInPile_12 (by decide) ?_
  exact loop 8 0 none rfl (fun i' h => absurd h (by omega))
set_option maxRecDepth 100000 in
set_option maxHeartbeats 1000000 in
theorem c_leafByPiles (hl : l.stackTraces = false) (h : CL G S tg W A t) (o c f : Int32) :
    MT l G S yX7_leafByPiles cX7_leafByPiles 9 (some .int) (rmT 3 3 18) [va_rf (some t), .int o, .int c, .int f] (EN G S tg t (oLeaf A o c f)) (XO A (oLeaf A o c f) [eIO]) := by
  obtain ⟨⟨hv, hb, ho, hs, hr⟩, hF⟩ := id h
  have h5 := hv.2.1
  have h50 := hv.2.2.1
  refine MT_of (by decide +kernel) hl rfl (Nat.le_of_ble_eq_true rfl) (fun Z hC hzl hnm hT hQ => ?_)
  change J G Z S 0 0 0 [some (va_rf (some t)), some (.int o), some (.int c), some (.int f), none, none, none, none, none] []
  have hzs : (zl Z).stackTraces = false := by rw [hzl]; exact hl
  refine r_aload_n hC dX7_leafByPiles_0 rfl rfl ?_
  refine r_iload_n hC dX7_leafByPiles_1 rfl rfl ?_
  refine r_cV (as := [.int o]) hC (c_orderNumbered hzs hr.1 hr.2.2.1 ho.1 h5 o) cs_X7_orderNumbered q_592 q_594 q_18 (hr.1) (by decide) rfl dX7_leafByPiles_2 rfl rfl ⟨Nat.le_of_ble_eq_true rfl, Nat.le_of_ble_eq_true rfl⟩ (Nat.le_of_ble_eq_true rfl) ⟨Nat.le_of_ble_eq_true rfl, Nat.le_of_ble_eq_true rfl⟩ (fun v2 S2 p2 => ?_) (fun E2 x2 => ?_)
  · obtain ⟨j, hj, rfl, rfl, e2⟩ := p2
    rw [e2]
    obtain ⟨g1, g2, g3, g4, g5⟩ := ho.2.2.2 j hj
    have q1 : ixb (nI j) (aNo A) = true := ixb_t hj (by omega)
    have q2 : ii (nI j) = j := ii_n (by omega)
    have h3 := (hv.2.2.2.2.2.1 j hj).2.2
    have hob := (hv.2.2.2.2.2.1 j hj).1
    refine r_astore hC dX7_leafByPiles_5 (by decide) ?_
    refine r_aload hC dX7_leafByPiles_7 rfl ?_
    refine r_iload_n hC dX7_leafByPiles_9 rfl rfl ?_
    refine r_cS (as := [va_rf (some (wOo W j)), .int c]) hC (c_copyNumbered hzs g1.1 g1.2.2.2.1 g1.2.2.2.2.1 h3 c) cs_X7_copyNumbered q_846 q_847 dX7_leafByPiles_10 rfl rfl ⟨Nat.le_of_ble_eq_true rfl, Nat.le_of_ble_eq_true rfl⟩ (Nat.le_of_ble_eq_true rfl) ⟨Nat.le_of_ble_eq_true rfl, Nat.le_of_ble_eq_true rfl⟩ (fun v10 S10 p10 => ?_) (fun E10 x10 => ?_)
    · obtain ⟨k, hk, rfl, rfl, e10⟩ := p10
      rw [e10]
      have hcp := g1.2.2.2.2.2.2.1 k hk
      have hc1 := g5 k hk
      have q3 : ixb (nI k) (aNc A j) = true := ixb_t hk (by omega)
      have q4 : ii (nI k) = k := ii_n (by omega)
      have hlq := hv.lq (c := k) hj
      refine r_astore hC dX7_leafByPiles_13 (by decide) ?_
      refine r_iload_n hC dX7_leafByPiles_15 rfl rfl ?_
      refine r_aload hC dX7_leafByPiles_16 rfl ?_
      refine r_aload hC dX7_leafByPiles_18 rfl ?_
      refine r_cVN (as := [va_rf (some (wCp W j k))]) hC (c_lengthOf hzs g1.1 g1.2.1 g1.2.2.1 hcp.1) cs_X4_lengthOf q_886 q_888 q_47 (g1.1) (by decide) rfl dX7_leafByPiles_20 rfl rfl ⟨Nat.le_of_ble_eq_true rfl, Nat.le_of_ble_eq_true rfl⟩ (Nat.le_of_ble_eq_true rfl) ⟨Nat.le_of_ble_eq_true rfl, Nat.le_of_ble_eq_true rfl⟩ (fun v20 S20 p20 => ?_) (fun _ x => x.elim)
      obtain ⟨rfl, e20⟩ := p20
      rw [e20, hc1.len (hb.2.2.2 _ hob).2.2.2.2.2.2.2.1]
      refine r_cS (as := [.int f, .int (nI (lenQ A j k))]) hC (c_checkIndex hzs f (m := lenQ A j k) (by omega)) cs_X7_checkIndex q_412 q_413 dX7_leafByPiles_23 rfl rfl ⟨Nat.le_of_ble_eq_true rfl, Nat.le_of_ble_eq_true rfl⟩ (Nat.le_of_ble_eq_true rfl) ⟨Nat.le_of_ble_eq_true rfl, Nat.le_of_ble_eq_true rfl⟩ (fun v23 S23 p23 => ?_) (fun E23 x23 => ?_)
      · obtain ⟨rfl, e23, m, hm, rfl⟩ := p23
        rw [e23]
        have hm43 : m < 43 := by omega
        obtain ⟨w1, w2, w3, w4⟩ := hasB_t hv hj hk hm
        have e : oLeaf A (nI j) (nI k) (nI m) = (0, (if aHl A j k m = 1 ∧ aTr A (aLs A j k m) ≠ 0 then aPos A j k m else -1), A) := by unfold oLeaf; rw [if_pos w1, w2, w3, w4]
        rw [e] at hQ
        have loop : ∀ (d i : Nat) (S1 : PS) (o7 o8 : Option Value), i + d = aNs A → ExP S S1 (wPi W) (wAc W) (wAh W) → (∀ i', i' < i → ¬ (aHl A j k m = 1 ∧ aLs A j k m = i' ∧ aTr A i' ≠ 0)) →
            J G Z S1 3 18 29 [some (va_rf (some t)), some (.int (nI j)), some (.int (nI k)), some (.int (nI m)), some (va_rf (some (wOo W j))), some (va_rf (some (wCp W j k))), some (.int (nI i)), o7, o8] [] := by
          intro d
          induction d with
          | zero =>
            intro i S1 o7 o8 hi hx hn
            have hi : i = aNs A := by omega
            subst hi
            refine r_hge hC (fun hg1 => ?_)
            obtain ⟨hv1, hb1, ho1, hs1, hr1⟩ := h.1.pi hg1 hx
            refine r_iload hC dX7_leafByPiles_29 rfl ?_
            refine r_aload_n hC dX7_leafByPiles_31 rfl rfl ?_
            refine r_getR  hC fl_X7_19 dX7_leafByPiles_32 (hr1.1) (hr1.2.2.2.1) ?_
            refine r_cV (as := []) hC (c_size hzs hs1.1.1) cs_Jx4a65c_size_8abf5 q_201 q_202 q_203 (hs1.1.1) (by decide) rfl dX7_leafByPiles_35 rfl rfl ⟨Nat.le_of_ble_eq_true rfl, Nat.le_of_ble_eq_true rfl⟩ (Nat.le_of_ble_eq_true rfl) ⟨Nat.le_of_ble_eq_true rfl, Nat.le_of_ble_eq_true rfl⟩ (fun v35 S35 p35 => ?_) (fun _ x => x.elim)
            obtain ⟨rfl, e35⟩ := p35
            rw [e35, hs1.1.2.1]
            refine r_icge (tgt := 91) hC dX7_leafByPiles_38 (by decide) (fun h38 => ?_) (fun h38 => ?_)
            · have hno : ¬ (aHl A j k m = 1 ∧ aTr A (aLs A j k m) ≠ 0) := fun z => hn _ ((hv.2.2.2.2.2.2.2.2.2.2 j hj k m hm43).2 z.1).2.1 ⟨z.1, rfl, z.2⟩
              refine r_iconst (v := (-1)) hC dX7_leafByPiles_91 (by decide) ?_
              refine r_iret hC hQ rfl dX7_leafByPiles_92 (Nat.le_of_ble_eq_true rfl) (Nat.le_of_ble_eq_true rfl) ?_
              rw [if_neg hno]
              exact ⟨rfl, rfl, tg, W, ⟨⟨hv1, hb1, ho1, hs1, hr1⟩, hF⟩, h.1.piF hx⟩
            · exact absurd (nI_le (Nat.le_refl _) (by omega)) h38
          | succ d ih =>
            intro i S1 o7 o8 hi hx hn
            have hin : i < aNs A := by omega
            refine r_hge hC (fun hg1 => ?_)
            have hn1 := h.1.pi hg1 hx
            obtain ⟨hv1, hb1, ho1, hs1, hr1⟩ := id hn1
            obtain ⟨s1, s2, s3, s4, s5, s6, s7, s8, s9⟩ := hs1.2.2.2 i hin
            have ht16 := (hv.2.2.2.2.2.2.2.2.1 i hin).2.1
            refine r_iload hC dX7_leafByPiles_29 rfl ?_
            refine r_aload_n hC dX7_leafByPiles_31 rfl rfl ?_
            refine r_getR  hC fl_X7_19 dX7_leafByPiles_32 (hr1.1) (hr1.2.2.2.1) ?_
            refine r_cV (as := []) hC (c_size hzs hs1.1.1) cs_Jx4a65c_size_8abf5 q_201 q_202 q_203 (hs1.1.1) (by decide) rfl dX7_leafByPiles_35 rfl rfl ⟨Nat.le_of_ble_eq_true rfl, Nat.le_of_ble_eq_true rfl⟩ (Nat.le_of_ble_eq_true rfl) ⟨Nat.le_of_ble_eq_true rfl, Nat.le_of_ble_eq_true rfl⟩ (fun v35 S35 p35 => ?_) (fun _ x => x.elim)
            obtain ⟨rfl, e35⟩ := p35
            rw [e35, hs1.1.2.1]
            refine r_icge (tgt := 91) hC dX7_leafByPiles_38 (by decide) (fun h38 => ?_) (fun h38 => ?_)
            · exact absurd ((nI_leI (by omega) (by omega)).mp h38) (by omega)
            · skip
              refine r_aload_n hC dX7_leafByPiles_41 rfl rfl ?_
              refine r_getR  hC fl_X7_19 dX7_leafByPiles_42 (hr1.1) (hr1.2.2.2.1) ?_
              refine r_iload hC dX7_leafByPiles_45 rfl ?_
              refine r_cV (as := [.int (nI i)]) hC (c_get hzs hs1.1 hin (by omega)) cs_Jx4a65c_get_915e3 q_205 q_206 q_207 (hs1.1.1) (by decide) rfl dX7_leafByPiles_47 rfl rfl ⟨Nat.le_of_ble_eq_true rfl, Nat.le_of_ble_eq_true rfl⟩ (Nat.le_of_ble_eq_true rfl) ⟨Nat.le_of_ble_eq_true rfl, Nat.le_of_ble_eq_true rfl⟩ (fun v47 S47 p47 => ?_) (fun _ x => x.elim)
              obtain ⟨rfl, e47⟩ := p47
              rw [e47]
              refine r_cast hC q_219 dX7_leafByPiles_50 s1.1 (by decide) rfl ?_
              refine r_astore hC dX7_leafByPiles_53 (by decide) ?_
              refine r_aload hC dX7_leafByPiles_55 rfl ?_
              refine r_cVN (as := []) hC (c_isCut hzs s1.1) cs_X6_isCut q_891 q_856 q_43 (s1.1) (by decide) rfl dX7_leafByPiles_57 rfl rfl ⟨Nat.le_of_ble_eq_true rfl, Nat.le_of_ble_eq_true rfl⟩ (Nat.le_of_ble_eq_true rfl) ⟨Nat.le_of_ble_eq_true rfl, Nat.le_of_ble_eq_true rfl⟩ (fun v57 S57 p57 => ?_) (fun _ x => x.elim)
              obtain ⟨rfl, e57⟩ := p57
              rw [e57, s8]
              have next : ∀ S2 o7' o8', ExP S S2 (wPi W) (wAc W) (wAh W) → ¬ (aHl A j k m = 1 ∧ aLs A j k m = i ∧ aTr A i ≠ 0) →
                  J G Z S2 3 18 85 [some (va_rf (some t)), some (.int (nI j)), some (.int (nI k)), some (.int (nI m)), some (va_rf (some (wOo W j))), some (va_rf (some (wCp W j k))), some (.int (nI i)), o7', o8'] [] := by
                intro S2 o7' o8' hx2 hno
                refine r_iinc hC dX7_leafByPiles_85 rfl (ii1 _) ?_
                refine r_goto (tgt := 29) hC dX7_leafByPiles_88 (by decide) ?_
                refine ih (i + 1) S2 o7' o8' (by omega) hx2 (fun i' hi' => ?_)
                rcases Nat.lt_or_ge i' i with w | w
                · exact hn i' w
                · have : i' = i := by omega
                  subst this
                  exact hno
              refine r_ifeq (tgt := 85) hC dX7_leafByPiles_60 (by decide) (fun h60 => ?_) (fun h60 => ?_)
              · have h0 : aTr A i = 0 := by
                  refine Classical.byContradiction (fun z => ?_)
                  rw [decide_eq_true ((trV_ne ht16).mpr z)] at h60
                  exact absurd h60 (by decide)
                exact next S1 _ _ hx (fun z => z.2.2 h0)
              · have h0 : aTr A i ≠ 0 := by
                  intro z
                  rw [z] at h60
                  exact h60 rfl
                refine r_aload_n hC dX7_leafByPiles_63 rfl rfl ?_
                refine r_aload hC dX7_leafByPiles_64 rfl ?_
                refine r_iload_n hC dX7_leafByPiles_66 rfl rfl ?_
                refine r_iload_n hC dX7_leafByPiles_67 rfl rfl ?_
                refine r_iload_n hC dX7_leafByPiles_68 rfl rfl ?_
                refine r_cV (as := [va_rf (some (wSh W i)), .int (nI j), .int (nI k), .int (nI m)]) hC (c_findInPile hzs hn1 hin hj hk hm43) cs_X7_findInPile q_906 q_908 q_48 (hr1.1) (by decide) rfl dX7_leafByPiles_69 rfl rfl ⟨Nat.le_of_ble_eq_true rfl, Nat.le_of_ble_eq_true rfl⟩ (Nat.le_of_ble_eq_true rfl) ⟨Nat.le_of_ble_eq_true rfl, Nat.le_of_ble_eq_true rfl⟩ (fun v69 S69 p69 => ?_) (fun _ x => x.elim)
                obtain ⟨rfl, hx2⟩ := p69
                have hx3 : ExP S S69 (wPi W) (wAc W) (wAh W) := Ex.tr hx hx2
                by_cases hk2 : aHl A j k m = 1 ∧ aLs A j k m = i
                · rw [if_pos hk2]
                  rcases ((ho1.2.2.2 j hj).2.2.2.2 k hk).2.2.2 m hm43 with ⟨z, -⟩ | ⟨d0, y, hy, d1, d2, d3, d4, d5, d6, x, hx8, d7⟩
                  · omega
                  · rw [hy]
                    have ky := (((ho1.2.2.2 j hj).1.2.2.2.2.2.2.1 k hk).2.2.2.2.1 m hm43 y hy).1.1
                    have ky2 := hx2.kd ky
                    have e99 : pI S69 99 y = aPos A j k m := ((hx2 y ky.1).2.2.2.1 99 (fun z => by omega)).trans d1.symm
                    refine r_astore hC dX7_leafByPiles_72 (by decide) ?_
                    refine r_aload hC dX7_leafByPiles_74 rfl ?_
                    refine r_ifnull (tgt := 85) hC dX7_leafByPiles_76 (by decide) (fun h76 => ?_) (fun z76 h76 => ?_)
                    · cases h76
                    · refine r_hge hC (fun hg2 => ?_)
                      refine r_aload hC dX7_leafByPiles_79 rfl ?_
                      refine r_getI hC fl_X7_245 rfl dX7_leafByPiles_81 (ky2) (e99) ?_
                      refine r_iret hC hQ rfl dX7_leafByPiles_84 (Nat.le_of_ble_eq_true rfl) (Nat.le_of_ble_eq_true rfl) ?_
                      rw [if_pos ⟨hk2.1, by rw [hk2.2]; exact h0⟩]
                      exact ⟨rfl, rfl, tg, W, ⟨h.1.pi hg2 hx3, hF⟩, h.1.piF hx3⟩
                · rw [if_neg hk2]
                  refine r_astore hC dX7_leafByPiles_72 (by decide) ?_
                  refine r_aload hC dX7_leafByPiles_74 rfl ?_
                  refine r_ifnull (tgt := 85) hC dX7_leafByPiles_76 (by decide) (fun h76 => ?_) (fun z76 h76 => ?_)
                  · exact next S69 _ _ hx3 (fun z => hk2 ⟨z.1, z.2.1⟩)
                  · cases h76
        refine r_iconst (v := nI 0) hC dX7_leafByPiles_26 (by decide) ?_
        refine r_istore hC dX7_leafByPiles_27 (by decide) ?_
        exact loop (aNs A) 0 S none none (by omega) Ex.rf (fun i' h => absurd h (by omega))
      · refine r_out hC hQ hT (Nat.le_of_ble_eq_true rfl) (Nat.le_of_ble_eq_true rfl) ⟨0, ?_, by rw [x23.1]; rfl⟩
        unfold oLeaf hasB
        rw [q1, q2, q3, q4, ixb_f x23.2]
        rfl
    · refine r_out hC hQ hT (Nat.le_of_ble_eq_true rfl) (Nat.le_of_ble_eq_true rfl) ⟨0, ?_, by rw [x10.1]; rfl⟩
      unfold oLeaf hasB
      rw [q1, q2, ixb_f x10.2]
      rfl
  · refine r_out hC hQ hT (Nat.le_of_ble_eq_true rfl) (Nat.le_of_ble_eq_true rfl) ⟨0, ?_, by rw [x2.1]; rfl⟩
    unfold oLeaf hasB
    rw [ixb_f x2.2]
    rfl
end LeafA

