/-! ===== copies: leaves that are spoiled ===== -/
/-- the position of a frame, NONE beyond the row -/
def posF (S : PS) (r n f : Nat) : Int32 := if n ≤ f then -1 else pA S r f
section CopyB
variable {l : Launch} {G : GG} {S : PS} {c v b p e cc2 r : Nat}
set_option maxRecDepth 100000 in
theorem c_posN (hl : l.stackTraces = false) (hb : isBk S b p e cc2 r) {n f : Nat} (hn : pI S 5 b = nI n) (h43 : n ≤ 43) (hf : f < 2147483648) :
    MT l G S yX0_positionOf cX0_positionOf 2 (some .int) (rmA 0) [va_rf (some b), .int (nI f)] (fun v S' => v = some (.int (posF S r n f)) ∧ S' = S) (fun _ => False) := by
  obtain ⟨kb, rp, re, rc, rr, kp, np, ke, ne, kc, nc, kr, nr, -⟩ := hb
  refine MT_of (by decide +kernel) hl rfl (Nat.le_of_ble_eq_true rfl) (fun Z hC _ hnm hT hQ => ?_)
  change J G Z S 0 0 0 [some (va_rf (some b)), some (.int (nI f))] []
  refine r_iload_n hC dX0_positionOf_0 rfl rfl ?_
  refine r_iflt (tgt := 12) hC dX0_positionOf_1 (by decide) (fun h1 => ?_) (fun h1 => ?_)
  · exact absurd h1 (nI_pos (by omega))
  · skip
    refine r_iload_n hC dX0_positionOf_4 rfl rfl ?_
    refine r_aload_n hC dX0_positionOf_5 rfl rfl ?_
    refine r_getI hC fl_X0_28 rfl dX0_positionOf_6 (kb) (hn) ?_
    refine r_iclt (tgt := 16) hC dX0_positionOf_9 (by decide) (fun h9 => ?_) (fun h9 => ?_)
    · have hjn : f < n := (nI_ltI (by omega) (by omega)).mp h9
      refine r_aload_n hC dX0_positionOf_16 rfl rfl ?_
      refine r_getR  hC fl_X0_21 dX0_positionOf_17 (kb) (rr) ?_
      refine r_iload_n hC dX0_positionOf_20 rfl rfl ?_
      refine r_iald hC dX0_positionOf_21 (kr) (rfl) (by rw [nr]; omega) (by rw [nr]; decide) (rfl) ?_
      refine r_iret hC hQ rfl dX0_positionOf_22 (Nat.le_of_ble_eq_true rfl) (Nat.le_of_ble_eq_true rfl) ?_
      exact ⟨by unfold posF; rw [if_neg (by omega)], rfl⟩
    · have hjn : ¬ f < n := fun z => h9 ((nI_ltI (by omega) (by omega)).mpr z)
      refine r_iconst (v := (-1)) hC dX0_positionOf_12 (by decide) ?_
      refine r_goto (tgt := 22) hC dX0_positionOf_13 (by decide) ?_
      refine r_iret hC hQ rfl dX0_positionOf_22 (Nat.le_of_ble_eq_true rfl) (Nat.le_of_ble_eq_true rfl) ?_
      exact ⟨by unfold posF; rw [if_pos (by omega)], rfl⟩
theorem spS_cp (hc : isCp S c v) (P : Nat → Nat → Bool) (i : Nat) : KD (spS S v P i) c 1 ∧ pR (spS S v P i) 32 c = some v ∧ KD (spS S v P i) v 12 ∧ pN (spS S v P i) v = 43 ∧ pB (spS S v P i) v i = pB S v i := by
  obtain ⟨kc, rv, kv, nv, -⟩ := hc
  obtain ⟨-, -, h3, h4, -⟩ := spS_o (S := S) (v := v) (P := P) i
  exact ⟨spS_KD.mpr kc, by rw [h3]; exact rv, spS_KD.mpr kv, by rw [h4]; exact nv, by rw [spS_B, if_neg (fun z => absurd z.2.1 (by omega))]⟩
theorem spS_lf {y i : Nat} {P : Nat → Nat → Bool} (h : isLf S y) : KD (spS S v P i) y 3 ∧ pR (spS S v P i) 100 y = some (lfS S y) ∧ KD (spS S v P i) (lfS S y) 6 := by
  obtain ⟨-, -, h3, -⟩ := spS_o (S := S) (v := v) (P := P) i
  exact ⟨spS_KD.mpr h.1, by rw [h3]; exact h.sh.1, spS_KD.mpr h.sh.2⟩
theorem spS_In {k x i : Nat} {P : Nat → Nat → Bool} (hk : k ≠ 101) : pI (spS S v P i) k x = pI S k x := by rw [spS_I, if_neg (fun z => hk z.1)]
theorem spS_st (hc : isCp S c v) {P : Nat → Nat → Bool} {i y : Nat} (hy : pB S v i = some y) : spS S v P (i + 1) = if P i y then sB (sI (spS S v P i) 101 y 1) v (va_up (pB (spS S v P i) v) i none) else spS S v P i := by
  simp only [spS, hy]
theorem spN_s {P : Nat → Nat → Bool} {i y : Nat} (hy : pB S v i = some y) : spN S v P i = P i y := by
  unfold spN
  rw [hy]
set_option maxRecDepth 100000 in
set_option maxHeartbeats 1000000 in
theorem c_spoilAbove (hl : l.stackTraces = false) (hc : isCp S c v) (g : Int32) :
    MT l G S yX1_spoilAbove cX1_spoilAbove 5 (some .int) (rmA 1) [va_rf (some c), .int g] (fun r S' => r = some (.int (nI (ct (spN S v (fun _ y => decide (g < lfT S y))) 43))) ∧ S' = spS S v (fun _ y => decide (g < lfT S y)) 43) (fun _ => False) := by
  refine MT_of (by decide +kernel) hl rfl (Nat.le_of_ble_eq_true rfl) (fun Z hC hzl hnm hT hQ => ?_)
  change J G Z S 0 0 0 [some (va_rf (some c)), some (.int g), none, none, none] []
  have hzs : (zl Z).stackTraces = false := by rw [hzl]; exact hl
  generalize hP : (fun (_ y : Nat) => decide (g < lfT S y)) = P at hQ
  have loop : ∀ (d i : Nat) (o : Option Value), i + d = 43 → J G Z (spS S v P i) 0 0 4 [some (va_rf (some c)), some (.int g), some (.int (nI (ct (spN S v P) i))), some (.int (nI i)), o] [] := by
    intro d
    induction d with
    | zero =>
      intro i o hi
      have hi : i = 43 := by omega
      subst hi
      obtain ⟨kc, rv, kv, nv, bv⟩ := spS_cp hc P 43
      refine r_iload_n hC dX1_spoilAbove_4 rfl rfl ?_
      refine r_aload_n hC dX1_spoilAbove_5 rfl rfl ?_
      refine r_getR  hC fl_X1_11 dX1_spoilAbove_6 (kc) (rv) ?_
      refine r_alen hC dX1_spoilAbove_9 (kv) (by decide) (by decide) (nv) ?_
      refine r_icge (tgt := 53) hC dX1_spoilAbove_10 (by decide) (fun h10 => ?_) (fun h10 => ?_)
      · skip
        refine r_iload_n hC dX1_spoilAbove_53 rfl rfl ?_
        refine r_iret hC hQ rfl dX1_spoilAbove_54 (Nat.le_of_ble_eq_true rfl) (Nat.le_of_ble_eq_true rfl) ?_
        exact ⟨rfl, rfl⟩
      · exact absurd (nI_le (Nat.le_refl 43) (by decide)) h10
    | succ d ih =>
      intro i o hi
      obtain ⟨kc, rv, kv, nv, bv⟩ := spS_cp hc P i
      refine r_iload_n hC dX1_spoilAbove_4 rfl rfl ?_
      refine r_aload_n hC dX1_spoilAbove_5 rfl rfl ?_
      refine r_getR  hC fl_X1_11 dX1_spoilAbove_6 (kc) (rv) ?_
      refine r_alen hC dX1_spoilAbove_9 (kv) (by decide) (by decide) (nv) ?_
      refine r_icge (tgt := 53) hC dX1_spoilAbove_10 (by decide) (fun h10 => ?_) (fun h10 => ?_)
      · exact absurd ((nI_leI (by omega) (by omega)).mp h10) (by omega)
      · skip
        refine r_aload_n hC dX1_spoilAbove_13 rfl rfl ?_
        refine r_getR  hC fl_X1_11 dX1_spoilAbove_14 (kc) (rv) ?_
        refine r_iload_n hC dX1_spoilAbove_17 rfl rfl ?_
        refine r_aald hC dX1_spoilAbove_18 (kv) (by decide) (rfl) (by rw [nv]; omega) (by rw [nv]; decide) (bv) ?_
        refine r_astore hC dX1_spoilAbove_19 (by decide) ?_
        refine r_aload hC dX1_spoilAbove_21 rfl ?_
        refine r_ifnull (tgt := 47) hC dX1_spoilAbove_23 (by decide) (fun h23 => ?_) (fun z23 h23 => ?_)
        · skip
          refine r_iinc hC dX1_spoilAbove_47 rfl (ii1 _) ?_
          refine r_goto (tgt := 4) hC dX1_spoilAbove_50 (by decide) ?_
          have h := ih (i + 1) (some (va_rf (pB S v i))) (by omega)
          rw [show spS S v P (i + 1) = spS S v P i by simp only [spS, h23]] at h
          rw [show ct (spN S v P) (i + 1) = ct (spN S v P) i by simp only [ct, spN, h23]; rfl] at h
          rw [h23] at h ⊢
          exact h
        · have hlf0 := hc.2.2.2.2.1 i (by omega) _ h23
          obtain ⟨ky, rs, ks⟩ := spS_lf (v := v) (P := P) (i := i) hlf0.1
          have hst := spS_st hc (P := P) h23
          have hsn := spN_s (P := P) h23
          rw [h23]
          refine r_aload hC dX1_spoilAbove_26 rfl ?_
          refine r_getR  hC fl_X1_36 dX1_spoilAbove_28 (ky) (rs) ?_
          refine r_getI hC fl_X1_46 rfl dX1_spoilAbove_31 (ks) (spS_In (by decide)) ?_
          refine r_iload_n hC dX1_spoilAbove_34 rfl rfl ?_
          refine r_icle (tgt := 47) hC dX1_spoilAbove_35 (by decide) (fun h35 => ?_) (fun h35 => ?_)
          · have hPi : P i z23 = false := by
              rw [← hP]
              exact decide_eq_false (fun z => Int32.lt_irrefl (Int32.lt_of_lt_of_le z h35))
            refine r_iinc hC dX1_spoilAbove_47 rfl (ii1 _) ?_
            refine r_goto (tgt := 4) hC dX1_spoilAbove_50 (by decide) ?_
            have h := ih (i + 1) (some (va_rf (some z23))) (by omega)
            rw [hst, hPi] at h
            rw [show ct (spN S v P) (i + 1) = ct (spN S v P) i by simp only [ct, hsn, hPi]; rfl] at h
            exact h
          · have hPi : P i z23 = true := by
              rw [← hP]
              exact decide_eq_true (Int32.not_le.mp h35)
            refine r_aload_n hC dX1_spoilAbove_38 rfl rfl ?_
            refine r_aload hC dX1_spoilAbove_39 rfl ?_
            refine r_cV (as := [va_rf (some z23)]) hC (c_spoil hzs kc rv kv nv (f := i) (by omega) ky ((spS_In (by decide)).trans hlf0.2)) cs_X1_spoil q_497 q_499 q_15 (kc) (by decide) rfl dX1_spoilAbove_41 rfl rfl ⟨Nat.le_of_ble_eq_true rfl, Nat.le_of_ble_eq_true rfl⟩ (Nat.le_of_ble_eq_true rfl) ⟨Nat.le_of_ble_eq_true rfl, Nat.le_of_ble_eq_true rfl⟩ (fun v41 S41 p41 => ?_) (fun _ x => x.elim)
            obtain ⟨rfl, e41⟩ := p41
            rw [e41]
            refine r_iinc hC dX1_spoilAbove_44 rfl (ii1 _) ?_
            refine r_iinc hC dX1_spoilAbove_47 rfl (ii1 _) ?_
            refine r_goto (tgt := 4) hC dX1_spoilAbove_50 (by decide) ?_
            have h := ih (i + 1) (some (va_rf (some z23))) (by omega)
            rw [hst, hPi] at h
            rw [show ct (spN S v P) (i + 1) = ct (spN S v P) i + 1 by simp only [ct, hsn, hPi]; rfl] at h
            exact h
  refine r_iconst (v := nI 0) hC dX1_spoilAbove_0 (by decide) ?_
  refine r_istore_n hC dX1_spoilAbove_1 rfl (by decide) ?_
  refine r_iconst (v := nI 0) hC dX1_spoilAbove_2 (by decide) ?_
  refine r_istore_n hC dX1_spoilAbove_3 rfl (by decide) ?_
  exact loop 43 0 none (by omega)
set_option maxRecDepth 100000 in
set_option maxHeartbeats 1000000 in
theorem c_spoilChangedC (hl : l.stackTraces = false) (hc : isCp S c v) (hb : isBk S b p e cc2 r) {n : Nat} (hn : pI S 5 b = nI n) (h43 : n ≤ 43) :
    MT l G S yX1_spoilChanged cX1_spoilChanged 5 (some .int) (rmA 1) [va_rf (some c), va_rf (some b)]
      (fun x S' => x = some (.int (nI (if pI S 33 c = 0 then ct (spN S v (fun f y => decide (pI S 99 y ≠ posF S r n f))) 43 else 0))) ∧ S' = if pI S 33 c = 0 then spS S v (fun f y => decide (pI S 99 y ≠ posF S r n f)) 43 else S) (fun _ => False) := by
  refine MT_of (by decide +kernel) hl rfl (Nat.le_of_ble_eq_true rfl) (fun Z hC hzl hnm hT hQ => ?_)
  change J G Z S 0 0 0 [some (va_rf (some c)), some (va_rf (some b)), none, none, none] []
  have hzs : (zl Z).stackTraces = false := by rw [hzl]; exact hl
  refine r_aload_n hC dX1_spoilChanged_0 rfl rfl ?_
  refine r_getI hC fl_X1_17 rfl dX1_spoilChanged_1 (hc.1) (rfl) ?_
  refine r_ifeq (tgt := 9) hC dX1_spoilChanged_4 (by decide) (fun h4 => ?_) (fun h4 => ?_)
  rotate_left
  · skip
    refine r_iconst (v := nI 0) hC dX1_spoilChanged_7 (by decide) ?_
    refine r_iret hC hQ rfl dX1_spoilChanged_8 (Nat.le_of_ble_eq_true rfl) (Nat.le_of_ble_eq_true rfl) ?_
    exact ⟨by rw [if_neg h4], by rw [if_neg h4]⟩
  · simp only [if_pos h4] at hQ
    generalize hP : (fun (f y : Nat) => decide (pI S 99 y ≠ posF S r n f)) = P at hQ
    have hbi : ∀ i, isBk (spS S v P i) b p e cc2 r ∧ pI (spS S v P i) 5 b = nI n ∧ pA (spS S v P i) r = pA S r := by
      intro i
      obtain ⟨o1, o2, o3, o4, o5, -⟩ := spS_o (S := S) (v := v) (P := P) i
      refine ⟨?_, (spS_In (by decide)).trans hn, by rw [o5]⟩
      unfold isBk KD
      rw [o1, o2, o3, o4]
      exact hb
    have loop : ∀ (d i : Nat) (o : Option Value), i + d = 43 → J G Z (spS S v P i) 0 0 13 [some (va_rf (some c)), some (va_rf (some b)), some (.int (nI (ct (spN S v P) i))), some (.int (nI i)), o] [] := by
      intro d
      induction d with
      | zero =>
        intro i o hi
        have hi : i = 43 := by omega
        subst hi
        obtain ⟨kc, rv, kv, nv, bv⟩ := spS_cp hc P 43
        refine r_iload_n hC dX1_spoilChanged_13 rfl rfl ?_
        refine r_aload_n hC dX1_spoilChanged_14 rfl rfl ?_
        refine r_getR  hC fl_X1_11 dX1_spoilChanged_15 (kc) (rv) ?_
        refine r_alen hC dX1_spoilChanged_18 (kv) (by decide) (by decide) (nv) ?_
        refine r_icge (tgt := 63) hC dX1_spoilChanged_19 (by decide) (fun h19 => ?_) (fun h19 => ?_)
        · skip
          refine r_iload_n hC dX1_spoilChanged_63 rfl rfl ?_
          refine r_iret hC hQ rfl dX1_spoilChanged_64 (Nat.le_of_ble_eq_true rfl) (Nat.le_of_ble_eq_true rfl) ?_
          exact ⟨rfl, rfl⟩
        · exact absurd (nI_le (Nat.le_refl 43) (by decide)) h19
      | succ d ih =>
        intro i o hi
        obtain ⟨kc, rv, kv, nv, bv⟩ := spS_cp hc P i
        obtain ⟨hb1, hb2, hb3⟩ := hbi i
        refine r_iload_n hC dX1_spoilChanged_13 rfl rfl ?_
        refine r_aload_n hC dX1_spoilChanged_14 rfl rfl ?_
        refine r_getR  hC fl_X1_11 dX1_spoilChanged_15 (kc) (rv) ?_
        refine r_alen hC dX1_spoilChanged_18 (kv) (by decide) (by decide) (nv) ?_
        refine r_icge (tgt := 63) hC dX1_spoilChanged_19 (by decide) (fun h19 => ?_) (fun h19 => ?_)
        · exact absurd ((nI_leI (by omega) (by omega)).mp h19) (by omega)
        · skip
          refine r_aload_n hC dX1_spoilChanged_22 rfl rfl ?_
          refine r_getR  hC fl_X1_11 dX1_spoilChanged_23 (kc) (rv) ?_
          refine r_iload_n hC dX1_spoilChanged_26 rfl rfl ?_
          refine r_aald hC dX1_spoilChanged_27 (kv) (by decide) (rfl) (by rw [nv]; omega) (by rw [nv]; decide) (bv) ?_
          refine r_astore hC dX1_spoilChanged_28 (by decide) ?_
          refine r_aload hC dX1_spoilChanged_30 rfl ?_
          refine r_ifnull (tgt := 57) hC dX1_spoilChanged_32 (by decide) (fun h32 => ?_) (fun z32 h32 => ?_)
          · skip
            refine r_iinc hC dX1_spoilChanged_57 rfl (ii1 _) ?_
            refine r_goto (tgt := 13) hC dX1_spoilChanged_60 (by decide) ?_
            have h := ih (i + 1) (some (va_rf (pB S v i))) (by omega)
            rw [show spS S v P (i + 1) = spS S v P i by simp only [spS, h32]] at h
            rw [show ct (spN S v P) (i + 1) = ct (spN S v P) i by simp only [ct, spN, h32]; rfl] at h
            rw [h32] at h ⊢
            exact h
          · have hlf0 := hc.2.2.2.2.1 i (by omega) _ h32
            obtain ⟨ky, rs, ks⟩ := spS_lf (v := v) (P := P) (i := i) hlf0.1
            have hst := spS_st hc (P := P) h32
            have hsn := spN_s (P := P) h32
            rw [h32]
            refine r_aload hC dX1_spoilChanged_35 rfl ?_
            refine r_getI hC fl_X1_59 rfl dX1_spoilChanged_37 (ky) (spS_In (by decide)) ?_
            refine r_aload_n hC dX1_spoilChanged_40 rfl rfl ?_
            refine r_iload_n hC dX1_spoilChanged_41 rfl rfl ?_
            refine r_cVN (as := [.int (nI i)]) hC (c_posN hzs hb1 (f := i) hb2 h43 (by omega)) cs_X0_positionOf q_493 q_495 q_14 (hb1.1) (by decide) rfl dX1_spoilChanged_42 rfl rfl ⟨Nat.le_of_ble_eq_true rfl, Nat.le_of_ble_eq_true rfl⟩ (Nat.le_of_ble_eq_true rfl) ⟨Nat.le_of_ble_eq_true rfl, Nat.le_of_ble_eq_true rfl⟩ (fun v42 S42 p42 => ?_) (fun _ x => x.elim)
            obtain ⟨rfl, e42⟩ := p42
            rw [e42]
            have hpf : posF (spS S v P i) r n i = posF S r n i := by unfold posF; rw [hb3]
            rw [hpf]
            refine r_iceq (tgt := 57) hC dX1_spoilChanged_45 (by decide) (fun h45 => ?_) (fun h45 => ?_)
            · have hPi : P i z32 = false := by
                rw [← hP]
                exact decide_eq_false (fun z => z h45)
              refine r_iinc hC dX1_spoilChanged_57 rfl (ii1 _) ?_
              refine r_goto (tgt := 13) hC dX1_spoilChanged_60 (by decide) ?_
              have h := ih (i + 1) (some (va_rf (some z32))) (by omega)
              rw [hst, hPi] at h
              rw [show ct (spN S v P) (i + 1) = ct (spN S v P) i by simp only [ct, hsn, hPi]; rfl] at h
              exact h
            · have hPi : P i z32 = true := by
                rw [← hP]
                exact decide_eq_true h45
              refine r_aload_n hC dX1_spoilChanged_48 rfl rfl ?_
              refine r_aload hC dX1_spoilChanged_49 rfl ?_
              refine r_cV (as := [va_rf (some z32)]) hC (c_spoil hzs kc rv kv nv (f := i) (by omega) ky ((spS_In (by decide)).trans hlf0.2)) cs_X1_spoil q_497 q_499 q_15 (kc) (by decide) rfl dX1_spoilChanged_51 rfl rfl ⟨Nat.le_of_ble_eq_true rfl, Nat.le_of_ble_eq_true rfl⟩ (Nat.le_of_ble_eq_true rfl) ⟨Nat.le_of_ble_eq_true rfl, Nat.le_of_ble_eq_true rfl⟩ (fun v51 S51 p51 => ?_) (fun _ x => x.elim)
              obtain ⟨rfl, e51⟩ := p51
              rw [e51]
              refine r_iinc hC dX1_spoilChanged_54 rfl (ii1 _) ?_
              refine r_iinc hC dX1_spoilChanged_57 rfl (ii1 _) ?_
              refine r_goto (tgt := 13) hC dX1_spoilChanged_60 (by decide) ?_
              have h := ih (i + 1) (some (va_rf (some z32))) (by omega)
              rw [hst, hPi] at h
              rw [show ct (spN S v P) (i + 1) = ct (spN S v P) i + 1 by simp only [ct, hsn, hPi]; rfl] at h
              exact h
    refine r_iconst (v := nI 0) hC dX1_spoilChanged_9 (by decide) ?_
    refine r_istore_n hC dX1_spoilChanged_10 rfl (by decide) ?_
    refine r_iconst (v := nI 0) hC dX1_spoilChanged_11 (by decide) ?_
    refine r_istore_n hC dX1_spoilChanged_12 rfl (by decide) ?_
    exact loop 43 0 none (by omega)
end CopyB

