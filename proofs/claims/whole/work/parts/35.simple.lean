/-! ===== lacking, waits, and what is read or set by itself ===== -/
def lackQ (A : AS) (o c f : Nat) : Bool := decide (aBd A o c = 0) && decide (aHl A o c f = 0)
def lackN (A : AS) (o : Nat) : Nat := sm (fun c => ct (lackQ A o c) (aLen A (aOb A o))) (aNc A o)
def ahQ (A : AS) (i j : Nat) : Bool := decide (aLen A (aOb A j) < aLen A (aOb A i) ∨ aLen A (aOb A i) = aLen A (aOb A j) ∧ i < j)
def aheadN (A : AS) (o n : Nat) : Nat := sm (fun i => if ahQ A i o = true then lackN A i else 0) n
def oSpoiled (A : AS) : OP := (0, nI (aSp A), A)
def oLacking (A : AS) (o : Int32) : OP := if ixb o (aNo A) = true then (0, nI (lackN A (ii o)), A) else (1, 0, A)
def oWaits (A : AS) (o : Int32) : OP := if ixb o (aNo A) = true then (0, nI (if lackN A (ii o) = 0 then 0 else (aheadN A (ii o) (aNo A) + lackN A (ii o) + 7) / 8), A) else (1, 0, A)
def oIsBound (A : AS) (o c : Int32) : OP := if ixb o (aNo A) = true ∧ ixb c (aNc A (ii o)) = true then (0, (if aBd A (ii o) (ii c) = 0 then 0 else 1), A) else (1, 0, A)
def oSetTol (A : AS) (x : Int32) : OP := if rgb x 0 15 = true then (0, nI (aTol A), uD A 0 3 0 0 (ii x)) else (1, 0, A)
def oSharpen (A : AS) (k : Int32) : OP := if ixb k 2 = true then (0, nI (aDl A (ii k)), uD A 10 (ii k) 0 0 0) else (1, 0, A)
def oCellOf (A : AS) (p : Int32) : OP := if ixb p 8 = true then (0, nI (unf (aFd A) (ii p)), A) else (1, 0, A)
theorem lackN_le {A : AS} (h : VU A) {o : Nat} (ho : o < aNo A) : lackN A o ≤ 129 := by
  have h3 := (h.2.2.2.2.2.1 o ho).2.2
  have h43 := h.len (h.2.2.2.2.2.1 o ho).1
  have := sm_le (fun c => ct (lackQ A o c) (aLen A (aOb A o))) (b := 43) (aNc A o) (fun i _ => Nat.le_trans (ct_le _ _) h43)
  unfold lackN
  exact Nat.le_trans this (Nat.mul_le_mul_right 43 h3)
theorem aheadN_le {A : AS} (h : VU A) (o : Nat) {n : Nat} (hn : n ≤ aNo A) : aheadN A o n ≤ n * 129 := by
  refine sm_le _ n (fun i hi => ?_)
  show (if ahQ A i o = true then lackN A i else 0) ≤ 129
  split
  · exact lackN_le h (by omega)
  · omega
section Simple
variable {l : Launch} {G : GG} {S : PS} {tg : TG} {W : WT} {A : AS} {t nl : Nat}
theorem CP1.lack {o c f : Nat} (h : CP1 S tg W A o c) (hf : f < 43) : lackB S (wCp W o c) (wLv W o c) f = lackQ A o c f := by
  obtain ⟨-, -, h3, h4⟩ := h
  unfold lackB lackQ
  congr 1
  · rcases h3 with ⟨q1, q2⟩ | ⟨q1, q2, -⟩
    · rw [q1, q2]; rfl
    · rw [q2, decide_eq_false q1]; rfl
  · rcases h4 f hf with ⟨q1, q2⟩ | ⟨q1, y, hy, -⟩
    · rw [q1, q2]; rfl
    · rw [q1, hy]; rfl
theorem c_countLackingA (hl : l.stackTraces = false) (h : CLn G S tg W A t nl) {o : Nat} (hoo : o < aNo A) :
    MT l G S yX4_countLacking cX4_countLacking 3 (some .int) (rmA 3) [va_rf (some (wOo W o))] (fun v S' => v = some (.int (nI (lackN A o))) ∧ S' = S) (fun _ => False) := by
  obtain ⟨hv, hb, ho, hs, hr⟩ := h
  have hob := (hv.2.2.2.2.2.1 o hoo).1
  have h43 := hv.len hob
  obtain ⟨g1, g2, g3, g4, g5⟩ := ho.2.2.2 o hoo
  have := c_countLackingO (G := G) hl g1 (hb.2.2.2 _ hob).2.2.2.2.2.2.2.1 h43
  rw [show sm (fun i => ct (lackB S (wCp W o i) (wLv W o i)) (aLen A (aOb A o))) (aNc A o) = lackN A o from sm_cong _ (fun c hc => ct_cong _ (fun f hf => (g5 c hc).lack (by omega)))] at this
  exact this
theorem c_isAheadA (hl : l.stackTraces = false) (h : CLn G S tg W A t nl) {i j : Nat} (hi : i < aNo A) (hj : j < aNo A) :
    MT l G S yX4_isAheadOf cX4_isAheadOf 2 (some .boolean) (rmA 0) [va_rf (some (wOo W i)), va_rf (some (wOo W j))] (fun v S' => v = some (.int (bI (ahQ A i j))) ∧ S' = S) (fun _ => False) := by
  obtain ⟨hv, hb, ho, hs, hr⟩ := h
  have h5 := hv.2.1
  have b1 := (hv.2.2.2.2.2.1 i hi).1
  have b2 := (hv.2.2.2.2.2.1 j hj).1
  obtain ⟨g1, g2, -⟩ := ho.2.2.2 i hi
  obtain ⟨k1, k2, -⟩ := ho.2.2.2 j hj
  exact c_isAheadOf hl g1.1 g1.2.1 g1.2.2.1 k1.1 k1.2.1 k1.2.2.1 (hb.2.2.2 _ b1).2.2.2.2.2.2.2.1 (hb.2.2.2 _ b2).2.2.2.2.2.2.2.1 g2 k2 (hv.len b1) (hv.len b2) (by omega) (by omega)
set_option maxRecDepth 100000 in
theorem c_sheetsFor (hl : l.stackTraces = false) {n : Nat} (hn : n ≤ 100000) :
    MT l G S yX7_sheetsFor cX7_sheetsFor 1 (some .int) (rmA 0) [.int (nI n)] (fun v S' => v = some (.int (nI ((n + 7) / 8))) ∧ S' = S) (fun _ => False) := by
  refine MT_of (by decide +kernel) hl rfl (Nat.le_of_ble_eq_true rfl) (fun Z hC hzl hnm hT hQ => ?_)
  change J G Z S 0 0 0 [some (.int (nI n))] []
  refine r_iload_n hC dX7_sheetsFor_0 rfl rfl ?_
  refine r_bipush (v := nI 8) hC dX7_sheetsFor_1 (by decide) ?_
  refine r_iadd hC dX7_sheetsFor_3 ?_
  refine r_iconst (v := nI 1) hC dX7_sheetsFor_4 (by decide) ?_
  refine r_isub hC dX7_sheetsFor_5 ?_
  rw [nI_add, show (nI (n + 8) - nI 1 : Int32) = nI (n + 7) from pk_sub (by omega)]
  refine r_bipush (v := nI 8) hC dX7_sheetsFor_6 (by decide) ?_
  refine r_idiv hC dX7_sheetsFor_8 (by decide) ?_
  rw [pk_div (by omega) (by decide) (by decide)]
  refine r_iret hC hQ rfl dX7_sheetsFor_9 (Nat.le_of_ble_eq_true rfl) (Nat.le_of_ble_eq_true rfl) ?_
  exact ⟨rfl, rfl⟩
set_option maxRecDepth 100000 in
theorem c_spoiled (hl : l.stackTraces = false) (h : CL G S tg W A t) :
    MT l G S yX7_spoiled cX7_spoiled 1 (some .int) (rmT 0 0 0) [va_rf (some t)] (EN G S tg t (oSpoiled A)) (XO A (oSpoiled A) []) := by
  obtain ⟨⟨hv, hb, ho, hs, hr⟩, hF⟩ := id h
  refine MT_of (by decide +kernel) hl rfl (Nat.le_of_ble_eq_true rfl) (fun Z hC hzl hnm hT hQ => ?_)
  change J G Z S 0 0 0 [some (va_rf (some t))] []
  refine r_aload_n hC dX7_spoiled_0 rfl rfl ?_
  refine r_getI hC fl_X7_49 rfl dX7_spoiled_1 (hr.1) (hr.2.2.2.2.2.2.2.2.2.1) ?_
  refine r_iret hC hQ rfl dX7_spoiled_4 (Nat.le_of_ble_eq_true rfl) (Nat.le_of_ble_eq_true rfl) ?_
  exact ⟨rfl, rfl, tg, W, h, FrC.rf⟩
set_option maxRecDepth 100000 in
theorem c_lacking (hl : l.stackTraces = false) (h : CL G S tg W A t) (o : Int32) :
    MT l G S yX7_lacking cX7_lacking 2 (some .int) (rmT 2 1 6) [va_rf (some t), .int o] (EN G S tg t (oLacking A o)) (XO A (oLacking A o) [eIO]) := by
  obtain ⟨⟨hv, hb, ho, hs, hr⟩, hF⟩ := id h
  have h5 := hv.2.1
  refine MT_of (by decide +kernel) hl rfl (Nat.le_of_ble_eq_true rfl) (fun Z hC hzl hnm hT hQ => ?_)
  change J G Z S 0 0 0 [some (va_rf (some t)), some (.int o)] []
  have hzs : (zl Z).stackTraces = false := by rw [hzl]; exact hl
  refine r_aload_n hC dX7_lacking_0 rfl rfl ?_
  refine r_iload_n hC dX7_lacking_1 rfl rfl ?_
  refine r_cV (as := [.int o]) hC (c_orderNumbered hzs hr.1 hr.2.2.1 ho.1 h5 o) cs_X7_orderNumbered q_592 q_594 q_18 (hr.1) (by decide) rfl dX7_lacking_2 rfl rfl ⟨Nat.le_of_ble_eq_true rfl, Nat.le_of_ble_eq_true rfl⟩ (Nat.le_of_ble_eq_true rfl) ⟨Nat.le_of_ble_eq_true rfl, Nat.le_of_ble_eq_true rfl⟩ (fun v2 S2 p2 => ?_) (fun E2 x2 => ?_)
  · obtain ⟨j, hj, rfl, rfl, e2⟩ := p2
    rw [e2]
    have hk := ho.2.2.2 j hj
    refine r_cVN (as := []) hC (c_countLackingA hzs h.1 hj) cs_X4_countLacking q_596 q_598 q_19 (hk.1.1) (by decide) rfl dX7_lacking_5 rfl rfl ⟨Nat.le_of_ble_eq_true rfl, Nat.le_of_ble_eq_true rfl⟩ (Nat.le_of_ble_eq_true rfl) ⟨Nat.le_of_ble_eq_true rfl, Nat.le_of_ble_eq_true rfl⟩ (fun v5 S5 p5 => ?_) (fun _ x => x.elim)
    obtain ⟨rfl, e5⟩ := p5
    rw [e5]
    refine r_iret hC hQ rfl dX7_lacking_8 (Nat.le_of_ble_eq_true rfl) (Nat.le_of_ble_eq_true rfl) ?_
    have e : oLacking A (nI j) = (0, nI (lackN A j), A) := by unfold oLacking; rw [if_pos (ixb_t hj (by omega)), ii_n (by omega)]
    rw [e]
    exact ⟨rfl, rfl, tg, W, h, FrC.rf⟩
  · refine r_out hC hQ hT (Nat.le_of_ble_eq_true rfl) (Nat.le_of_ble_eq_true rfl) ⟨0, ?_, by rw [x2.1]; rfl⟩
    unfold oLacking
    rw [if_neg (by rw [ixb_f x2.2]; decide)]
set_option maxRecDepth 100000 in
set_option maxHeartbeats 1000000 in
theorem c_waits (hl : l.stackTraces = false) (h : CL G S tg W A t) (o : Int32) :
    MT l G S yX7_waits cX7_waits 7 (some .int) (rmT 2 1 6) [va_rf (some t), .int o] (EN G S tg t (oWaits A o)) (XO A (oWaits A o) [eIO]) := by
  obtain ⟨⟨hv, hb, ho, hs, hr⟩, hF⟩ := id h
  have h5 := hv.2.1
  refine MT_of (by decide +kernel) hl rfl (Nat.le_of_ble_eq_true rfl) (fun Z hC hzl hnm hT hQ => ?_)
  change J G Z S 0 0 0 [some (va_rf (some t)), some (.int o), none, none, none, none, none] []
  have hzs : (zl Z).stackTraces = false := by rw [hzl]; exact hl
  refine r_aload_n hC dX7_waits_0 rfl rfl ?_
  refine r_iload_n hC dX7_waits_1 rfl rfl ?_
  refine r_cV (as := [.int o]) hC (c_orderNumbered hzs hr.1 hr.2.2.1 ho.1 h5 o) cs_X7_orderNumbered q_592 q_594 q_18 (hr.1) (by decide) rfl dX7_waits_2 rfl rfl ⟨Nat.le_of_ble_eq_true rfl, Nat.le_of_ble_eq_true rfl⟩ (Nat.le_of_ble_eq_true rfl) ⟨Nat.le_of_ble_eq_true rfl, Nat.le_of_ble_eq_true rfl⟩ (fun v2 S2 p2 => ?_) (fun E2 x2 => ?_)
  · obtain ⟨j, hj, rfl, rfl, e2⟩ := p2
    rw [e2]
    have hk := ho.2.2.2 j hj
    have hlk := lackN_le hv hj
    have hend : ∀ v S', v = some (.int (nI (if lackN A j = 0 then 0 else (aheadN A j (aNo A) + lackN A j + 7) / 8))) → S' = S → EN G S tg t (oWaits A (nI j)) v S' := by
      intro v S' e1 e2
      have e : oWaits A (nI j) = (0, nI (if lackN A j = 0 then 0 else (aheadN A j (aNo A) + lackN A j + 7) / 8), A) := by unfold oWaits; rw [if_pos (ixb_t hj (by omega)), ii_n (by omega)]
      rw [e, e2]
      exact ⟨rfl, e1, tg, W, h, FrC.rf⟩
    refine r_astore_n hC dX7_waits_5 rfl (by decide) ?_
    refine r_aload_n hC dX7_waits_6 rfl rfl ?_
    refine r_cVN (as := []) hC (c_countLackingA hzs h.1 hj) cs_X4_countLacking q_596 q_598 q_19 (hk.1.1) (by decide) rfl dX7_waits_7 rfl rfl ⟨Nat.le_of_ble_eq_true rfl, Nat.le_of_ble_eq_true rfl⟩ (Nat.le_of_ble_eq_true rfl) ⟨Nat.le_of_ble_eq_true rfl, Nat.le_of_ble_eq_true rfl⟩ (fun v7 S7 p7 => ?_) (fun _ x => x.elim)
    obtain ⟨rfl, e7⟩ := p7
    rw [e7]
    refine r_istore_n hC dX7_waits_10 rfl (by decide) ?_
    refine r_iload_n hC dX7_waits_11 rfl rfl ?_
    refine r_ifne (tgt := 17) hC dX7_waits_12 (by decide) (fun h12 => ?_) (fun h12 => ?_)
    · have hn0 : lackN A j ≠ 0 := fun z => h12 (by rw [z]; rfl)
      have loop : ∀ (d k : Nat) (o6 : Option Value), k + d = aNo A →
          J G Z S 1 6 23 [some (va_rf (some t)), some (.int (nI j)), some (va_rf (some (wOo W j))), some (.int (nI (lackN A j))), some (.int (nI (aheadN A j k))), some (.int (nI k)), o6] [] := by
        intro d
        induction d with
        | zero =>
          intro k o6 hk2
          have hk2 : k = aNo A := by omega
          subst hk2
          have hle := aheadN_le hv j (Nat.le_refl (aNo A))
          refine r_iload hC dX7_waits_23 rfl ?_
          refine r_aload_n hC dX7_waits_25 rfl rfl ?_
          refine r_getR  hC fl_X7_16 dX7_waits_26 (hr.1) (hr.2.2.1) ?_
          refine r_cV (as := []) hC (c_size hzs ho.1.1) cs_Jx4a65c_size_8abf5 q_201 q_202 q_203 (ho.1.1) (by decide) rfl dX7_waits_29 rfl rfl ⟨Nat.le_of_ble_eq_true rfl, Nat.le_of_ble_eq_true rfl⟩ (Nat.le_of_ble_eq_true rfl) ⟨Nat.le_of_ble_eq_true rfl, Nat.le_of_ble_eq_true rfl⟩ (fun v29 S29 p29 => ?_) (fun _ x => x.elim)
          obtain ⟨rfl, e29⟩ := p29
          rw [e29, ho.1.2.1]
          refine r_icge (tgt := 74) hC dX7_waits_32 (by decide) (fun h32 => ?_) (fun h32 => ?_)
          · skip
            refine r_iload hC dX7_waits_74 rfl ?_
            refine r_iload_n hC dX7_waits_76 rfl rfl ?_
            refine r_iadd hC dX7_waits_77 ?_
            rw [nI_add]
            refine r_cS (as := [.int (nI (aheadN A j (aNo A) + lackN A j))]) hC (c_sheetsFor hzs (n := aheadN A j (aNo A) + lackN A j) (by omega)) cs_X7_sheetsFor q_623 q_624 dX7_waits_78 rfl rfl ⟨Nat.le_of_ble_eq_true rfl, Nat.le_of_ble_eq_true rfl⟩ (Nat.le_of_ble_eq_true rfl) ⟨Nat.le_of_ble_eq_true rfl, Nat.le_of_ble_eq_true rfl⟩ (fun v78 S78 p78 => ?_) (fun _ x => x.elim)
            obtain ⟨rfl, e78⟩ := p78
            rw [e78]
            refine r_iret hC hQ rfl dX7_waits_81 (Nat.le_of_ble_eq_true rfl) (Nat.le_of_ble_eq_true rfl) ?_
            exact hend _ _ (by rw [if_neg hn0]) rfl
          · exact absurd (nI_le (Nat.le_refl _) (by omega)) h32
        | succ d ih =>
          intro k o6 hk2
          have hkn : k < aNo A := by omega
          have hor := (ho.2.2.2 k hkn).1
          refine r_iload hC dX7_waits_23 rfl ?_
          refine r_aload_n hC dX7_waits_25 rfl rfl ?_
          refine r_getR  hC fl_X7_16 dX7_waits_26 (hr.1) (hr.2.2.1) ?_
          refine r_cV (as := []) hC (c_size hzs ho.1.1) cs_Jx4a65c_size_8abf5 q_201 q_202 q_203 (ho.1.1) (by decide) rfl dX7_waits_29 rfl rfl ⟨Nat.le_of_ble_eq_true rfl, Nat.le_of_ble_eq_true rfl⟩ (Nat.le_of_ble_eq_true rfl) ⟨Nat.le_of_ble_eq_true rfl, Nat.le_of_ble_eq_true rfl⟩ (fun v29 S29 p29 => ?_) (fun _ x => x.elim)
          obtain ⟨rfl, e29⟩ := p29
          rw [e29, ho.1.2.1]
          refine r_icge (tgt := 74) hC dX7_waits_32 (by decide) (fun h32 => ?_) (fun h32 => ?_)
          · exact absurd ((nI_leI (by omega) (by omega)).mp h32) (by omega)
          · skip
            refine r_aload_n hC dX7_waits_35 rfl rfl ?_
            refine r_getR  hC fl_X7_16 dX7_waits_36 (hr.1) (hr.2.2.1) ?_
            refine r_iload hC dX7_waits_39 rfl ?_
            refine r_cV (as := [.int (nI k)]) hC (c_get hzs ho.1 hkn (by omega)) cs_Jx4a65c_get_915e3 q_205 q_206 q_207 (ho.1.1) (by decide) rfl dX7_waits_41 rfl rfl ⟨Nat.le_of_ble_eq_true rfl, Nat.le_of_ble_eq_true rfl⟩ (Nat.le_of_ble_eq_true rfl) ⟨Nat.le_of_ble_eq_true rfl, Nat.le_of_ble_eq_true rfl⟩ (fun v41 S41 p41 => ?_) (fun _ x => x.elim)
            obtain ⟨rfl, e41⟩ := p41
            rw [e41]
            refine r_cast hC q_479 dX7_waits_44 hor.1 (by decide) rfl ?_
            refine r_astore hC dX7_waits_47 (by decide) ?_
            refine r_aload hC dX7_waits_49 rfl ?_
            refine r_aload_n hC dX7_waits_51 rfl rfl ?_
            refine r_cVN (as := [va_rf (some (wOo W j))]) hC (c_isAheadA hzs h.1 hkn hj) cs_X4_isAheadOf q_619 q_621 q_23 (hor.1) (by decide) rfl dX7_waits_52 rfl rfl ⟨Nat.le_of_ble_eq_true rfl, Nat.le_of_ble_eq_true rfl⟩ (Nat.le_of_ble_eq_true rfl) ⟨Nat.le_of_ble_eq_true rfl, Nat.le_of_ble_eq_true rfl⟩ (fun v52 S52 p52 => ?_) (fun _ x => x.elim)
            obtain ⟨rfl, e52⟩ := p52
            rw [e52]
            refine r_ifeq (tgt := 68) hC dX7_waits_55 (by decide) (fun h55 => ?_) (fun h55 => ?_)
            · have hq : ahQ A k j = false := by
                cases hq : ahQ A k j with
                | false => rfl
                | true => rw [hq] at h55; exact absurd h55 (by decide)
              refine r_iinc hC dX7_waits_68 rfl (ii1 _) ?_
              refine r_goto (tgt := 23) hC dX7_waits_71 (by decide) ?_
              have := ih (k + 1) (some (va_rf (some (wOo W k)))) (by omega)
              have e : aheadN A j (k + 1) = aheadN A j k := by simp only [aheadN, sm, hq, Bool.false_eq_true, if_false, Nat.add_zero]
              rw [e] at this
              exact this
            · have hq : ahQ A k j = true := by
                cases hq : ahQ A k j with
                | true => rfl
                | false => rw [hq] at h55; exact absurd rfl h55
              refine r_iload hC dX7_waits_58 rfl ?_
              refine r_aload hC dX7_waits_60 rfl ?_
              refine r_cVN (as := []) hC (c_countLackingA hzs h.1 hkn) cs_X4_countLacking q_596 q_598 q_19 (hor.1) (by decide) rfl dX7_waits_62 rfl rfl ⟨Nat.le_of_ble_eq_true rfl, Nat.le_of_ble_eq_true rfl⟩ (Nat.le_of_ble_eq_true rfl) ⟨Nat.le_of_ble_eq_true rfl, Nat.le_of_ble_eq_true rfl⟩ (fun v62 S62 p62 => ?_) (fun _ x => x.elim)
              obtain ⟨rfl, e62⟩ := p62
              rw [e62]
              refine r_iadd hC dX7_waits_65 ?_
              refine r_istore hC dX7_waits_66 (by decide) ?_
              refine r_iinc hC dX7_waits_68 rfl (ii1 _) ?_
              refine r_goto (tgt := 23) hC dX7_waits_71 (by decide) ?_
              rw [nI_add]
              have := ih (k + 1) (some (va_rf (some (wOo W k)))) (by omega)
              have e : aheadN A j (k + 1) = aheadN A j k + lackN A k := by simp only [aheadN, sm, hq, if_true]
              rw [e] at this
              exact this
      refine r_iconst (v := nI 0) hC dX7_waits_17 (by decide) ?_
      refine r_istore hC dX7_waits_18 (by decide) ?_
      refine r_iconst (v := nI 0) hC dX7_waits_20 (by decide) ?_
      refine r_istore hC dX7_waits_21 (by decide) ?_
      exact loop (aNo A) 0 none (by omega)
    · have hn0 : lackN A j = 0 := (nI_eq (by omega) (by decide)).mp h12
      refine r_iconst (v := nI 0) hC dX7_waits_15 (by decide) ?_
      refine r_iret hC hQ rfl dX7_waits_16 (Nat.le_of_ble_eq_true rfl) (Nat.le_of_ble_eq_true rfl) ?_
      exact hend _ _ (by rw [if_pos hn0]) rfl
  · refine r_out hC hQ hT (Nat.le_of_ble_eq_true rfl) (Nat.le_of_ble_eq_true rfl) ⟨0, ?_, by rw [x2.1]; rfl⟩
    unfold oWaits
    rw [if_neg (by rw [ixb_f x2.2]; decide)]
end Simple

