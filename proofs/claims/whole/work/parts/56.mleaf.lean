/-! ===== the model's copies and leaves ===== -/
section MLeaf
variable {l : Launch} {G : GG} {S S0 S' : PS} {tg tg' : TG} {md : Nat} {V : Nat → Nat} {N : Nat → Int32} {R : Nat → Nat → Int32} {A : AS}
set_option maxRecDepth 100000 in
theorem m_size (hl : l.stackTraces = false) (hM : MM S tg md V N R) (hv : VU A) (hB : mBk (R 1) (R 2) (R 3) (R 4) A) (hO : mOr (R 6) (R 7) (R 8) A) {o : Nat} (ho : o < aNo A) :
    MT l G S yX8_size cX8_size 2 (some .int) (rmA 1) [va_rf (some md), .int (nI o)] (fun v S' => v = some (.int (nI (aLen A (aOb A o)))) ∧ S' = S) (fun _ => False) := by
  have h5 := hv.2.1
  refine MT_of (by decide +kernel) hl rfl (Nat.le_of_ble_eq_true rfl) (fun Z hC hzl hnm hT hQ => ?_)
  change J G Z S 0 0 0 [some (va_rf (some md)), some (.int (nI o))] []
  have hzs : (zl Z).stackTraces = false := by rw [hzl]; exact hl
  refine r_aload_n hC dX8_size_0 rfl rfl ?_
  refine r_aload_n hC dX8_size_1 rfl rfl ?_
  refine r_getR  hC fl_X8_22 dX8_size_2 (hM.kd) (hM.r 6 rfl) ?_
  refine r_iload_n hC dX8_size_5 rfl rfl ?_
  refine r_iald hC dX8_size_6 (hM.k 6 rfl) (rfl) (hM.lt 6 rfl (by show _ < 5; omega)) (hM.b 6 rfl) ((congrFun (hM.a 6 rfl) _).trans ((hO o ho).1)) ?_
  refine r_cV (as := [.int (nI (aOb A o))]) hC (m_framesOf hzs hM hv hB (hv.2.2.2.2.2.1 o ho).1) cs_X8_framesOf q_1029 q_1031 q_55 (hM.kd) (by decide) rfl dX8_size_7 rfl rfl ⟨Nat.le_of_ble_eq_true rfl, Nat.le_of_ble_eq_true rfl⟩ (Nat.le_of_ble_eq_true rfl) ⟨Nat.le_of_ble_eq_true rfl, Nat.le_of_ble_eq_true rfl⟩ (fun v7 S7 p7 => ?_) (fun _ x => x.elim)
  obtain ⟨rfl, e7⟩ := p7
  rw [e7]
  refine r_iret hC hQ rfl dX8_size_10 (Nat.le_of_ble_eq_true rfl) (Nat.le_of_ble_eq_true rfl) ?_
  exact ⟨rfl, rfl⟩
set_option maxRecDepth 100000 in
theorem m_isCopy (hl : l.stackTraces = false) (hM : MM S tg md V N R) (hv : VU A) (hMC : MC N R A) (o c : Int32) :
    MT l G S yX8_isCopy cX8_isCopy 3 (some .boolean) (rmA 2) [va_rf (some md), .int o, .int c] (fun v S' => v = some (.int (bI (ixb o (aNo A) && ixb c (aNc A (ii o))))) ∧ S' = S) (fun _ => False) := by
  have h5 := hv.2.1
  refine MT_of (by decide +kernel) hl rfl (Nat.le_of_ble_eq_true rfl) (fun Z hC hzl hnm hT hQ => ?_)
  change J G Z S 0 0 0 [some (va_rf (some md)), some (.int o), some (.int c)] []
  have hzs : (zl Z).stackTraces = false := by rw [hzl]; exact hl
  refine r_aload_n hC dX8_isCopy_0 rfl rfl ?_
  refine r_iload_n hC dX8_isCopy_1 rfl rfl ?_
  refine r_cV (as := [.int o]) hC (m_isOrder hzs hM o h5 hMC.1.2.1) cs_X8_isOrder q_1079 q_1081 q_60 (hM.kd) (by decide) rfl dX8_isCopy_2 rfl rfl ⟨Nat.le_of_ble_eq_true rfl, Nat.le_of_ble_eq_true rfl⟩ (Nat.le_of_ble_eq_true rfl) ⟨Nat.le_of_ble_eq_true rfl, Nat.le_of_ble_eq_true rfl⟩ (fun v2 S2 p2 => ?_) (fun _ x => x.elim)
  obtain ⟨rfl, e2⟩ := p2
  rw [e2]
  cases ho : ixb o (aNo A) with
  | false =>
    refine r_ifeq (tgt := 28) hC dX8_isCopy_5 (by decide) (fun h5 => ?_) (fun h5 => ?_)
    · refine r_iconst (v := nI 0) hC dX8_isCopy_28 (by decide) ?_
      refine r_zret hC hQ rfl (by decide) dX8_isCopy_29 (Nat.le_of_ble_eq_true rfl) (Nat.le_of_ble_eq_true rfl) ?_
      rw [ho, Bool.false_and]
      exact ⟨rfl, rfl⟩
    · exact absurd rfl h5
  | true =>
    obtain ⟨j, hj, rfl, hjj⟩ := ixb_of (by omega) ho
    have h3 := (hv.2.2.2.2.2.1 j hj).2.2
    refine r_ifeq (tgt := 28) hC dX8_isCopy_5 (by decide) (fun h5 => ?_) (fun h5 => ?_)
    · exact absurd h5 (by decide)
    · refine r_iload_n hC dX8_isCopy_8 rfl rfl ?_
      refine r_iconst (v := nI 0) hC dX8_isCopy_9 (by decide) ?_
      refine r_aload_n hC dX8_isCopy_10 rfl rfl ?_
      refine r_getR  hC fl_X8_25 dX8_isCopy_11 (hM.kd) (hM.r 7 rfl) ?_
      refine r_iload_n hC dX8_isCopy_14 rfl rfl ?_
      refine r_iald hC dX8_isCopy_15 (hM.k 7 rfl) (rfl) (hM.lt 7 rfl (by show _ < 5; omega)) (hM.b 7 rfl) ((congrFun (hM.a 7 rfl) _).trans ((hMC.2.2.1 j hj).2.1)) ?_
      refine r_iconst (v := nI 1) hC dX8_isCopy_16 (by decide) ?_
      refine r_isub hC dX8_isCopy_17 ?_
      refine r_cS (as := [.int c, .int (nI 0), .int (nI (aNc A j) - nI 1)]) hC (m_isInX hzs c (n := aNc A j) (by omega)) cs_X8_isIn q_1022 q_1023 dX8_isCopy_18 rfl rfl ⟨Nat.le_of_ble_eq_true rfl, Nat.le_of_ble_eq_true rfl⟩ (Nat.le_of_ble_eq_true rfl) ⟨Nat.le_of_ble_eq_true rfl, Nat.le_of_ble_eq_true rfl⟩ (fun v18 S18 p18 => ?_) (fun _ x => x.elim)
      obtain ⟨rfl, e18⟩ := p18
      rw [e18]
      have e : (ixb (nI j) (aNo A) && ixb c (aNc A (ii (nI j)))) = ixb c (aNc A j) := by rw [ho, hjj, Bool.true_and]
      cases hc : ixb c (aNc A j) with
      | false =>
        refine r_ifeq (tgt := 28) hC dX8_isCopy_21 (by decide) (fun h21 => ?_) (fun h21 => ?_)
        · refine r_iconst (v := nI 0) hC dX8_isCopy_28 (by decide) ?_
          refine r_zret hC hQ rfl (by decide) dX8_isCopy_29 (Nat.le_of_ble_eq_true rfl) (Nat.le_of_ble_eq_true rfl) ?_
          rw [e, hc]
          exact ⟨rfl, rfl⟩
        · exact absurd rfl h21
      | true =>
        refine r_ifeq (tgt := 28) hC dX8_isCopy_21 (by decide) (fun h21 => ?_) (fun h21 => ?_)
        · exact absurd h21 (by decide)
        · refine r_iconst (v := nI 1) hC dX8_isCopy_24 (by decide) ?_
          refine r_goto (tgt := 29) hC dX8_isCopy_25 (by decide) ?_
          refine r_zret hC hQ rfl (by decide) dX8_isCopy_29 (Nat.le_of_ble_eq_true rfl) (Nat.le_of_ble_eq_true rfl) ?_
          rw [e, hc]
          exact ⟨rfl, rfl⟩
set_option maxRecDepth 100000 in
set_option maxHeartbeats 1000000 in
theorem m_isBound (hl : l.stackTraces = false) (hM : MM S tg md V N R) (hv : VU A) (hMC : MC N R A) (o c : Int32) :
    MT l G S yX8_isBound cX8_isBound 3 (some .boolean) (rmA 3) [va_rf (some md), .int o, .int c] (EM S tg md V (oIsBound A o c)) (fun _ => False) := by
  have h5 := hv.2.1
  refine MT_of (by decide +kernel) hl rfl (Nat.le_of_ble_eq_true rfl) (fun Z hC hzl hnm hT hQ => ?_)
  change J G Z S 0 0 0 [some (va_rf (some md)), some (.int o), some (.int c)] []
  have hzs : (zl Z).stackTraces = false := by rw [hzl]; exact hl
  refine r_aload_n hC dX8_isBound_0 rfl rfl ?_
  refine r_aload_n hC dX8_isBound_1 rfl rfl ?_
  refine r_iload_n hC dX8_isBound_2 rfl rfl ?_
  refine r_iload_n hC dX8_isBound_3 rfl rfl ?_
  refine r_cV (as := [.int o, .int c]) hC (m_isCopy hzs hM hv hMC o c) cs_X8_isCopy q_1159 q_1161 q_68 (hM.kd) (by decide) rfl dX8_isBound_4 rfl rfl ⟨Nat.le_of_ble_eq_true rfl, Nat.le_of_ble_eq_true rfl⟩ (Nat.le_of_ble_eq_true rfl) ⟨Nat.le_of_ble_eq_true rfl, Nat.le_of_ble_eq_true rfl⟩ (fun v4 S4 p4 => ?_) (fun _ x => x.elim)
  obtain ⟨rfl, e4⟩ := p4
  rw [e4]
  cases hb : (ixb o (aNo A) && ixb c (aNc A (ii o))) with
  | false =>
    refine r_ifeq (tgt := 14) hC dX8_isBound_7 (by decide) (fun h7 => ?_) (fun h7 => ?_)
    · refine r_iconst (v := nI 1) hC dX8_isBound_14 (by decide) ?_
      refine r_cV (as := [.int (nI 1)]) hC (m_goes hzs hM (nI 1)) cs_X8_goes q_1010 q_1012 q_52 (hM.kd) (by decide) rfl dX8_isBound_15 rfl rfl ⟨Nat.le_of_ble_eq_true rfl, Nat.le_of_ble_eq_true rfl⟩ (Nat.le_of_ble_eq_true rfl) ⟨Nat.le_of_ble_eq_true rfl, Nat.le_of_ble_eq_true rfl⟩ (fun v15 S15 p15 => ?_) (fun _ x => x.elim)
      obtain ⟨rfl, h1⟩ := p15
      refine r_ifeq (tgt := 34) hC dX8_isBound_18 (by decide) (fun h18 => ?_) (fun h18 => ?_)
      · refine r_iconst (v := nI 0) hC dX8_isBound_34 (by decide) ?_
        refine r_zret hC hQ rfl (by decide) dX8_isBound_35 (Nat.le_of_ble_eq_true rfl) (Nat.le_of_ble_eq_true rfl) ?_
        exact EM.thr h1 hMC ⟨1, by unfold oIsBound; rw [if_neg (fun z => by rw [z.1, z.2] at hb; exact absurd hb (by decide))], by decide, rfl⟩ ⟨_, rfl⟩
      · exact absurd rfl h18
    · exact absurd rfl h7
  | true =>
    rw [Bool.and_eq_true] at hb
    obtain ⟨j, hj, rfl, hjj⟩ := ixb_of (by omega) hb.1
    have h3 := (hv.2.2.2.2.2.1 j hj).2.2
    rw [hjj] at hb
    obtain ⟨k, hk, rfl, hkk⟩ := ixb_of (by omega) hb.2
    refine r_ifeq (tgt := 14) hC dX8_isBound_7 (by decide) (fun h7 => ?_) (fun h7 => ?_)
    · exact absurd h7 (by decide)
    · refine r_iconst (v := nI 0) hC dX8_isBound_10 (by decide) ?_
      refine r_goto (tgt := 15) hC dX8_isBound_11 (by decide) ?_
      refine r_cV (as := [.int (nI 0)]) hC (m_goes hzs hM (nI 0)) cs_X8_goes q_1010 q_1012 q_52 (hM.kd) (by decide) rfl dX8_isBound_15 rfl rfl ⟨Nat.le_of_ble_eq_true rfl, Nat.le_of_ble_eq_true rfl⟩ (Nat.le_of_ble_eq_true rfl) ⟨Nat.le_of_ble_eq_true rfl, Nat.le_of_ble_eq_true rfl⟩ (fun v15 S15 p15 => ?_) (fun _ x => x.elim)
      obtain ⟨rfl, h1⟩ := p15
      have e : oIsBound A (nI j) (nI k) = (0, (if aBd A j k = 0 then 0 else 1), A) := by unfold oIsBound; rw [hjj, if_pos hb, hkk]
      refine r_ifeq (tgt := 34) hC dX8_isBound_18 (by decide) (fun h18 => ?_) (fun h18 => ?_)
      · exact absurd h18 (by decide)
      · refine r_aload_n hC dX8_isBound_21 rfl rfl ?_
        refine r_iload_n hC dX8_isBound_22 rfl rfl ?_
        refine r_iload_n hC dX8_isBound_23 rfl rfl ?_
        refine r_cV (as := [.int (nI j), .int (nI k)]) hC (m_isBoundCopy hzs h1.1 (o := j) (c := k) (by omega) (by omega)) cs_X8_isBoundCopy q_1033 q_1035 q_56 (h1.1.kd) (by decide) rfl dX8_isBound_24 rfl rfl ⟨Nat.le_of_ble_eq_true rfl, Nat.le_of_ble_eq_true rfl⟩ (Nat.le_of_ble_eq_true rfl) ⟨Nat.le_of_ble_eq_true rfl, Nat.le_of_ble_eq_true rfl⟩ (fun v24 S24 p24 => ?_) (fun _ x => x.elim)
        obtain ⟨rfl, e24⟩ := p24
        rw [e24, bd_ne hv hMC.2.2.1 hj (by omega)]
        refine r_ifeq (tgt := 34) hC dX8_isBound_27 (by decide) (fun h27 => ?_) (fun h27 => ?_)
        · have hz : aBd A j k = 0 := Classical.byContradiction (fun z => by
            rw [decide_eq_true z] at h27
            exact absurd h27 (by decide))
          refine r_iconst (v := nI 0) hC dX8_isBound_34 (by decide) ?_
          refine r_zret hC hQ rfl (by decide) dX8_isBound_35 (Nat.le_of_ble_eq_true rfl) (Nat.le_of_ble_eq_true rfl) ?_
          rw [e]
          exact EM.ok h1 (hMC.n23 _) rfl rfl (if_pos hz).symm
        · have hz : aBd A j k ≠ 0 := fun z => h27 (by rw [decide_eq_false (fun w => w z)]; rfl)
          refine r_iconst (v := nI 1) hC dX8_isBound_30 (by decide) ?_
          refine r_goto (tgt := 35) hC dX8_isBound_31 (by decide) ?_
          refine r_zret hC hQ rfl (by decide) dX8_isBound_35 (Nat.le_of_ble_eq_true rfl) (Nat.le_of_ble_eq_true rfl) ?_
          rw [e]
          exact EM.ok h1 (hMC.n23 _) rfl rfl (if_neg hz).symm
set_option maxRecDepth 100000 in
set_option maxHeartbeats 1000000 in
theorem m_hasFrame (hl : l.stackTraces = false) (hM : MM S tg md V N R) (hv : VU A) (hMC : MC N R A) (o c f : Int32) :
    MT l G S yX8_hasFrame cX8_hasFrame 4 (some .boolean) (rmA 3) [va_rf (some md), .int o, .int c, .int f] (fun v S' => v = some (.int (bI (hasB A o c f))) ∧ S' = S) (fun _ => False) := by
  have h5 := hv.2.1
  refine MT_of (by decide +kernel) hl rfl (Nat.le_of_ble_eq_true rfl) (fun Z hC hzl hnm hT hQ => ?_)
  change J G Z S 0 0 0 [some (va_rf (some md)), some (.int o), some (.int c), some (.int f)] []
  have hzs : (zl Z).stackTraces = false := by rw [hzl]; exact hl
  refine r_aload_n hC dX8_hasFrame_0 rfl rfl ?_
  refine r_iload_n hC dX8_hasFrame_1 rfl rfl ?_
  refine r_iload_n hC dX8_hasFrame_2 rfl rfl ?_
  refine r_cV (as := [.int o, .int c]) hC (m_isCopy hzs hM hv hMC o c) cs_X8_isCopy q_1159 q_1161 q_68 (hM.kd) (by decide) rfl dX8_hasFrame_3 rfl rfl ⟨Nat.le_of_ble_eq_true rfl, Nat.le_of_ble_eq_true rfl⟩ (Nat.le_of_ble_eq_true rfl) ⟨Nat.le_of_ble_eq_true rfl, Nat.le_of_ble_eq_true rfl⟩ (fun v3 S3 p3 => ?_) (fun _ x => x.elim)
  obtain ⟨rfl, e3⟩ := p3
  rw [e3]
  cases hb : (ixb o (aNo A) && ixb c (aNc A (ii o))) with
  | false =>
    refine r_ifne (tgt := 11) hC dX8_hasFrame_6 (by decide) (fun h6 => ?_) (fun h6 => ?_)
    · exact absurd rfl h6
    · refine r_iconst (v := nI 0) hC dX8_hasFrame_9 (by decide) ?_
      refine r_zret hC hQ rfl (by decide) dX8_hasFrame_10 (Nat.le_of_ble_eq_true rfl) (Nat.le_of_ble_eq_true rfl) ?_
      have : hasB A o c f = false := by unfold hasB; rw [hb, Bool.false_and]
      rw [this]
      exact ⟨rfl, rfl⟩
  | true =>
    have hbb := hb
    rw [Bool.and_eq_true] at hb
    obtain ⟨j, hj, rfl, hjj⟩ := ixb_of (by omega) hb.1
    have h3 := (hv.2.2.2.2.2.1 j hj).2.2
    rw [hjj] at hb
    obtain ⟨k, hk, rfl, hkk⟩ := ixb_of (by omega) hb.2
    have hlq := hv.lq (c := k) hj
    have e : hasB A (nI j) (nI k) f = ixb f (lenQ A j k) := by unfold hasB; rw [hbb, hjj, hkk, Bool.true_and]
    rw [e] at hQ
    have fin : J G Z S 0 0 40 [some (va_rf (some md)), some (.int (nI j)), some (.int (nI k)), some (.int f)] [.int (nI (lenQ A j k)), .int (nI 0), .int f] := by
      refine r_iconst (v := nI 1) hC dX8_hasFrame_40 (by decide) ?_
      refine r_isub hC dX8_hasFrame_41 ?_
      refine r_cS (as := [.int f, .int (nI 0), .int (nI (lenQ A j k) - nI 1)]) hC (m_isInX hzs f (n := lenQ A j k) (by omega)) cs_X8_isIn q_1022 q_1023 dX8_hasFrame_42 rfl rfl ⟨Nat.le_of_ble_eq_true rfl, Nat.le_of_ble_eq_true rfl⟩ (Nat.le_of_ble_eq_true rfl) ⟨Nat.le_of_ble_eq_true rfl, Nat.le_of_ble_eq_true rfl⟩ (fun v42 S42 p42 => ?_) (fun _ x => x.elim)
      obtain ⟨rfl, e42⟩ := p42
      rw [e42]
      refine r_zret hC hQ rfl (by cases ixb f (lenQ A j k) <;> decide) dX8_hasFrame_45 (Nat.le_of_ble_eq_true rfl) (Nat.le_of_ble_eq_true rfl) ?_
      exact ⟨rfl, rfl⟩
    refine r_ifne (tgt := 11) hC dX8_hasFrame_6 (by decide) (fun h6 => ?_) (fun h6 => ?_)
    rotate_left
    · exact absurd h6 (by decide)
    · refine r_iload_n hC dX8_hasFrame_11 rfl rfl ?_
      refine r_iconst (v := nI 0) hC dX8_hasFrame_12 (by decide) ?_
      refine r_aload_n hC dX8_hasFrame_13 rfl rfl ?_
      refine r_iload_n hC dX8_hasFrame_14 rfl rfl ?_
      refine r_iload_n hC dX8_hasFrame_15 rfl rfl ?_
      refine r_cV (as := [.int (nI j), .int (nI k)]) hC (m_isBoundCopy hzs hM (o := j) (c := k) (by omega) (by omega)) cs_X8_isBoundCopy q_1033 q_1035 q_56 (hM.kd) (by decide) rfl dX8_hasFrame_16 rfl rfl ⟨Nat.le_of_ble_eq_true rfl, Nat.le_of_ble_eq_true rfl⟩ (Nat.le_of_ble_eq_true rfl) ⟨Nat.le_of_ble_eq_true rfl, Nat.le_of_ble_eq_true rfl⟩ (fun v16 S16 p16 => ?_) (fun _ x => x.elim)
      obtain ⟨rfl, e16⟩ := p16
      rw [e16, bd_ne hv hMC.2.2.1 hj (by omega)]
      refine r_ifeq (tgt := 35) hC dX8_hasFrame_19 (by decide) (fun h19 => ?_) (fun h19 => ?_)
      · have hz : aBd A j k = 0 := Classical.byContradiction (fun z => by
          rw [decide_eq_true z] at h19
          exact absurd h19 (by decide))
        refine r_aload_n hC dX8_hasFrame_35 rfl rfl ?_
        refine r_iload_n hC dX8_hasFrame_36 rfl rfl ?_
        refine r_cV (as := [.int (nI j)]) hC (m_size hzs hM hv hMC.2.1 hMC.2.2.1 hj) cs_X8_size q_1091 q_1093 q_63 (hM.kd) (by decide) rfl dX8_hasFrame_37 rfl rfl ⟨Nat.le_of_ble_eq_true rfl, Nat.le_of_ble_eq_true rfl⟩ (Nat.le_of_ble_eq_true rfl) ⟨Nat.le_of_ble_eq_true rfl, Nat.le_of_ble_eq_true rfl⟩ (fun v37 S37 p37 => ?_) (fun _ x => x.elim)
        obtain ⟨rfl, e37⟩ := p37
        rw [e37]
        have : aLen A (aOb A j) = lenQ A j k := by unfold lenQ; rw [if_pos hz]
        rw [this]
        exact fin
      · have hz : aBd A j k ≠ 0 := fun z => h19 (by rw [decide_eq_false (fun w => w z)]; rfl)
        have hbd := (hMC.2.2.1 j hj).2.2 k (by omega)
        rw [if_neg hz] at hbd
        refine r_aload_n hC dX8_hasFrame_22 rfl rfl ?_
        refine r_getR  hC fl_X8_28 dX8_hasFrame_23 (hM.kd) (hM.r 8 rfl) ?_
        refine r_iconst (v := nI 3) hC dX8_hasFrame_26 (by decide) ?_
        refine r_iload_n hC dX8_hasFrame_27 rfl rfl ?_
        refine r_imul hC dX8_hasFrame_28 ?_
        refine r_iload_n hC dX8_hasFrame_29 rfl rfl ?_
        refine r_iadd hC dX8_hasFrame_30 ?_
        refine r_iald hC dX8_hasFrame_31 (hM.k 8 rfl) (by rw [pk_mul, nI_add]) (hM.lt 8 rfl (by show _ < 15; omega)) (hM.b 8 rfl) ((congrFun (hM.a 8 rfl) _).trans (hbd)) ?_
        refine r_goto (tgt := 40) hC dX8_hasFrame_32 (by decide) ?_
        have : aBd A j k - 1 = lenQ A j k := by unfold lenQ; rw [if_neg hz]
        rw [this]
        exact fin
theorem hasB_of {o c f : Int32} (hv : VU A) (h : hasB A o c f = true) : ∃ o' c' f', o = nI o' ∧ c = nI c' ∧ f = nI f' ∧ o' < aNo A ∧ c' < aNc A o' ∧ f' < lenQ A o' c' ∧ ii o = o' ∧ ii c = c' ∧ ii f = f' := by
  have h5 := hv.2.1
  have h' := h
  unfold hasB at h'
  rw [Bool.and_eq_true, Bool.and_eq_true] at h'
  obtain ⟨⟨h1, h2⟩, h3⟩ := h'
  obtain ⟨o', ho, rfl, e1⟩ := ixb_of (by omega) h1
  have hc3 := (hv.2.2.2.2.2.1 o' ho).2.2
  rw [e1] at h2 h3
  obtain ⟨c', hc, rfl, e2⟩ := ixb_of (by omega) h2
  rw [e2] at h3
  have hlq := hv.lq (c := c') ho
  obtain ⟨f', hf, rfl, e3⟩ := ixb_of (by omega) h3
  exact ⟨o', c', f', rfl, rfl, rfl, ho, hc, hf, e1, e2, e3⟩
set_option maxRecDepth 100000 in
set_option maxHeartbeats 1000000 in
theorem m_trim (hl : l.stackTraces = false) (hM : MM S tg md V N R) (hv : VU A) (hMC : MC N R A) (o c f : Int32) :
    MT l G S yX8_trim cX8_trim 4 (some .int) (rmA 4) [va_rf (some md), .int o, .int c, .int f] (EM S tg md V (oTrim A o c f)) (fun _ => False) := by
  have h5 := hv.2.1
  refine MT_of (by decide +kernel) hl rfl (Nat.le_of_ble_eq_true rfl) (fun Z hC hzl hnm hT hQ => ?_)
  change J G Z S 0 0 0 [some (va_rf (some md)), some (.int o), some (.int c), some (.int f)] []
  have hzs : (zl Z).stackTraces = false := by rw [hzl]; exact hl
  refine r_aload_n hC dX8_trim_0 rfl rfl ?_
  refine r_aload_n hC dX8_trim_1 rfl rfl ?_
  refine r_iload_n hC dX8_trim_2 rfl rfl ?_
  refine r_iload_n hC dX8_trim_3 rfl rfl ?_
  refine r_iload_n hC dX8_trim_4 rfl rfl ?_
  refine r_cV (as := [.int o, .int c, .int f]) hC (m_hasFrame hzs hM hv hMC o c f) cs_X8_hasFrame q_1175 q_1177 q_70 (hM.kd) (by decide) rfl dX8_trim_5 rfl rfl ⟨Nat.le_of_ble_eq_true rfl, Nat.le_of_ble_eq_true rfl⟩ (Nat.le_of_ble_eq_true rfl) ⟨Nat.le_of_ble_eq_true rfl, Nat.le_of_ble_eq_true rfl⟩ (fun v5 S5 p5 => ?_) (fun _ x => x.elim)
  obtain ⟨rfl, e5⟩ := p5
  rw [e5]
  cases hb : hasB A o c f with
  | false =>
    refine r_ifeq (tgt := 15) hC dX8_trim_8 (by decide) (fun h8 => ?_) (fun h8 => ?_)
    · refine r_iconst (v := nI 1) hC dX8_trim_15 (by decide) ?_
      refine r_cV (as := [.int (nI 1)]) hC (m_goes hzs hM (nI 1)) cs_X8_goes q_1010 q_1012 q_52 (hM.kd) (by decide) rfl dX8_trim_16 rfl rfl ⟨Nat.le_of_ble_eq_true rfl, Nat.le_of_ble_eq_true rfl⟩ (Nat.le_of_ble_eq_true rfl) ⟨Nat.le_of_ble_eq_true rfl, Nat.le_of_ble_eq_true rfl⟩ (fun v16 S16 p16 => ?_) (fun _ x => x.elim)
      obtain ⟨rfl, h1⟩ := p16
      refine r_ifeq (tgt := 36) hC dX8_trim_19 (by decide) (fun h19 => ?_) (fun h19 => ?_)
      · refine r_iconst (v := nI 0) hC dX8_trim_36 (by decide) ?_
        refine r_iret hC hQ rfl dX8_trim_37 (Nat.le_of_ble_eq_true rfl) (Nat.le_of_ble_eq_true rfl) ?_
        exact EM.thr h1 hMC ⟨1, by unfold oTrim; rw [if_neg (by rw [hb]; decide)], by decide, rfl⟩ ⟨_, rfl⟩
      · exact absurd rfl h19
    · exact absurd rfl h8
  | true =>
    obtain ⟨j, k, m, rfl, rfl, rfl, hj, hk, hm, e1, e2, e3⟩ := hasB_of hv hb
    have h3 := (hv.2.2.2.2.2.1 j hj).2.2
    have hlq := hv.lq (c := k) hj
    obtain ⟨w1, w2, w3⟩ := hMC.2.2.2.1 j hj k (by omega) m (by omega)
    have hlx := LX_lt (o := j) (c := k) (f := m) (by omega) (by omega) (by omega)
    have e : oTrim A (nI j) (nI k) (nI m) = (0, (if aHl A j k m = 1 then trV (aTr A (aLs A j k m)) else -1), A) := by unfold oTrim; rw [if_pos hb, e1, e2, e3]
    refine r_ifeq (tgt := 15) hC dX8_trim_8 (by decide) (fun h8 => ?_) (fun h8 => ?_)
    · exact absurd h8 (by decide)
    · refine r_iconst (v := nI 0) hC dX8_trim_11 (by decide) ?_
      refine r_goto (tgt := 16) hC dX8_trim_12 (by decide) ?_
      refine r_cV (as := [.int (nI 0)]) hC (m_goes hzs hM (nI 0)) cs_X8_goes q_1010 q_1012 q_52 (hM.kd) (by decide) rfl dX8_trim_16 rfl rfl ⟨Nat.le_of_ble_eq_true rfl, Nat.le_of_ble_eq_true rfl⟩ (Nat.le_of_ble_eq_true rfl) ⟨Nat.le_of_ble_eq_true rfl, Nat.le_of_ble_eq_true rfl⟩ (fun v16 S16 p16 => ?_) (fun _ x => x.elim)
      obtain ⟨rfl, h1⟩ := p16
      refine r_ifeq (tgt := 36) hC dX8_trim_19 (by decide) (fun h19 => ?_) (fun h19 => ?_)
      · exact absurd h19 (by decide)
      · refine r_aload_n hC dX8_trim_22 rfl rfl ?_
        refine r_getR  hC fl_X8_37 dX8_trim_23 (h1.1.kd) (h1.1.r 11 rfl) ?_
        refine r_iload_n hC dX8_trim_26 rfl rfl ?_
        refine r_iload_n hC dX8_trim_27 rfl rfl ?_
        refine r_iload_n hC dX8_trim_28 rfl rfl ?_
        refine r_cS (as := [.int (nI j), .int (nI k), .int (nI m)]) hC (m_leafAt hzs j k m) cs_X8_leafAt q_1072 q_1073 dX8_trim_29 rfl rfl ⟨Nat.le_of_ble_eq_true rfl, Nat.le_of_ble_eq_true rfl⟩ (Nat.le_of_ble_eq_true rfl) ⟨Nat.le_of_ble_eq_true rfl, Nat.le_of_ble_eq_true rfl⟩ (fun v29 S29 p29 => ?_) (fun _ x => x.elim)
        obtain ⟨rfl, e29⟩ := p29
        rw [e29]
        refine r_iald hC dX8_trim_32 (h1.1.k 11 rfl) (rfl) (h1.1.lt 11 rfl (by show LX j k m < 645; exact hlx)) (h1.1.b 11 rfl) ((congrFun (h1.1.a 11 rfl) _).trans (w2)) ?_
        refine r_goto (tgt := 37) hC dX8_trim_33 (by decide) ?_
        refine r_iret hC hQ rfl dX8_trim_37 (Nat.le_of_ble_eq_true rfl) (Nat.le_of_ble_eq_true rfl) ?_
        rw [e]
        exact EM.ok h1 (hMC.n23 _) rfl rfl rfl
set_option maxRecDepth 100000 in
set_option maxHeartbeats 1000000 in
theorem m_leafShown (hl : l.stackTraces = false) (hM : MM S tg md V N R) (hv : VU A) (hMC : MC N R A) (o c f : Int32) :
    MT l G S yX8_leafShown cX8_leafShown 5 (some .int) (rmA 4) [va_rf (some md), .int o, .int c, .int f] (EM S tg md V (oLeaf A o c f)) (fun _ => False) := by
  have h5 := hv.2.1
  refine MT_of (by decide +kernel) hl rfl (Nat.le_of_ble_eq_true rfl) (fun Z hC hzl hnm hT hQ => ?_)
  change J G Z S 0 0 0 [some (va_rf (some md)), some (.int o), some (.int c), some (.int f), none] []
  have hzs : (zl Z).stackTraces = false := by rw [hzl]; exact hl
  refine r_aload_n hC dX8_leafShown_0 rfl rfl ?_
  refine r_aload_n hC dX8_leafShown_1 rfl rfl ?_
  refine r_iload_n hC dX8_leafShown_2 rfl rfl ?_
  refine r_iload_n hC dX8_leafShown_3 rfl rfl ?_
  refine r_iload_n hC dX8_leafShown_4 rfl rfl ?_
  refine r_cV (as := [.int o, .int c, .int f]) hC (m_hasFrame hzs hM hv hMC o c f) cs_X8_hasFrame q_1175 q_1177 q_70 (hM.kd) (by decide) rfl dX8_leafShown_5 rfl rfl ⟨Nat.le_of_ble_eq_true rfl, Nat.le_of_ble_eq_true rfl⟩ (Nat.le_of_ble_eq_true rfl) ⟨Nat.le_of_ble_eq_true rfl, Nat.le_of_ble_eq_true rfl⟩ (fun v5 S5 p5 => ?_) (fun _ x => x.elim)
  obtain ⟨rfl, e5⟩ := p5
  rw [e5]
  cases hb : hasB A o c f with
  | false =>
    refine r_ifeq (tgt := 15) hC dX8_leafShown_8 (by decide) (fun h8 => ?_) (fun h8 => ?_)
    · refine r_iconst (v := nI 1) hC dX8_leafShown_15 (by decide) ?_
      refine r_cV (as := [.int (nI 1)]) hC (m_goes hzs hM (nI 1)) cs_X8_goes q_1010 q_1012 q_52 (hM.kd) (by decide) rfl dX8_leafShown_16 rfl rfl ⟨Nat.le_of_ble_eq_true rfl, Nat.le_of_ble_eq_true rfl⟩ (Nat.le_of_ble_eq_true rfl) ⟨Nat.le_of_ble_eq_true rfl, Nat.le_of_ble_eq_true rfl⟩ (fun v16 S16 p16 => ?_) (fun _ x => x.elim)
      obtain ⟨rfl, h1⟩ := p16
      refine r_ifne (tgt := 24) hC dX8_leafShown_19 (by decide) (fun h19 => ?_) (fun h19 => ?_)
      · exact absurd rfl h19
      · refine r_iconst (v := nI 0) hC dX8_leafShown_22 (by decide) ?_
        refine r_iret hC hQ rfl dX8_leafShown_23 (Nat.le_of_ble_eq_true rfl) (Nat.le_of_ble_eq_true rfl) ?_
        exact EM.thr h1 hMC ⟨1, by unfold oLeaf; rw [if_neg (by rw [hb]; decide)], by decide, rfl⟩ ⟨_, rfl⟩
    · exact absurd rfl h8
  | true =>
    obtain ⟨j, k, m, rfl, rfl, rfl, hj, hk, hm, e1, e2, e3⟩ := hasB_of hv hb
    have h3 := (hv.2.2.2.2.2.1 j hj).2.2
    have hlq := hv.lq (c := k) hj
    obtain ⟨w1, w2, w3⟩ := hMC.2.2.2.1 j hj k (by omega) m (by omega)
    have hlx := LX_lt (o := j) (c := k) (f := m) (by omega) (by omega) (by omega)
    have e : oLeaf A (nI j) (nI k) (nI m) = (0, (if aHl A j k m = 1 ∧ aTr A (aLs A j k m) ≠ 0 then aPos A j k m else -1), A) := by unfold oLeaf; rw [if_pos hb, e1, e2, e3]
    refine r_ifeq (tgt := 15) hC dX8_leafShown_8 (by decide) (fun h8 => ?_) (fun h8 => ?_)
    · exact absurd h8 (by decide)
    · refine r_iconst (v := nI 0) hC dX8_leafShown_11 (by decide) ?_
      refine r_goto (tgt := 16) hC dX8_leafShown_12 (by decide) ?_
      refine r_cV (as := [.int (nI 0)]) hC (m_goes hzs hM (nI 0)) cs_X8_goes q_1010 q_1012 q_52 (hM.kd) (by decide) rfl dX8_leafShown_16 rfl rfl ⟨Nat.le_of_ble_eq_true rfl, Nat.le_of_ble_eq_true rfl⟩ (Nat.le_of_ble_eq_true rfl) ⟨Nat.le_of_ble_eq_true rfl, Nat.le_of_ble_eq_true rfl⟩ (fun v16 S16 p16 => ?_) (fun _ x => x.elim)
      obtain ⟨rfl, h1⟩ := p16
      refine r_ifne (tgt := 24) hC dX8_leafShown_19 (by decide) (fun h19 => ?_) (fun h19 => ?_)
      rotate_left
      · exact absurd h19 (by decide)
      · refine r_iload_n hC dX8_leafShown_24 rfl rfl ?_
        refine r_iload_n hC dX8_leafShown_25 rfl rfl ?_
        refine r_iload_n hC dX8_leafShown_26 rfl rfl ?_
        refine r_cS (as := [.int (nI j), .int (nI k), .int (nI m)]) hC (m_leafAt hzs j k m) cs_X8_leafAt q_1072 q_1073 dX8_leafShown_27 rfl rfl ⟨Nat.le_of_ble_eq_true rfl, Nat.le_of_ble_eq_true rfl⟩ (Nat.le_of_ble_eq_true rfl) ⟨Nat.le_of_ble_eq_true rfl, Nat.le_of_ble_eq_true rfl⟩ (fun v27 S27 p27 => ?_) (fun _ x => x.elim)
        obtain ⟨rfl, e27⟩ := p27
        rw [e27]
        by_cases hh : aHl A j k m = 1
        · have ht16 := (hv.2.2.2.2.2.2.2.2.1 _ ((hv.2.2.2.2.2.2.2.2.2.2 j hj k m (by omega)).2 hh).2.1).2.1
          rw [if_pos hh] at w1 w2
          refine r_istore hC dX8_leafShown_30 (by decide) ?_
          refine r_aload_n hC dX8_leafShown_32 rfl rfl ?_
          refine r_getR  hC fl_X8_37 dX8_leafShown_33 (h1.1.kd) (h1.1.r 11 rfl) ?_
          refine r_iload hC dX8_leafShown_36 rfl ?_
          refine r_iald hC dX8_leafShown_38 (h1.1.k 11 rfl) (rfl) (h1.1.lt 11 rfl (by show LX j k m < 645; exact hlx)) (h1.1.b 11 rfl) ((congrFun (h1.1.a 11 rfl) _).trans (w2)) ?_
          refine r_iconst (v := (-1)) hC dX8_leafShown_39 (by decide) ?_
          refine r_icne (tgt := 47) hC dX8_leafShown_40 (by decide) (fun h40 => ?_) (fun h40 => ?_)
          · have h0 : aTr A (aLs A j k m) ≠ 0 := (trV_ne ht16).mp h40
            refine r_aload_n hC dX8_leafShown_47 rfl rfl ?_
            refine r_getR  hC fl_X8_31 dX8_leafShown_48 (h1.1.kd) (h1.1.r 9 rfl) ?_
            refine r_iload hC dX8_leafShown_51 rfl ?_
            refine r_iald hC dX8_leafShown_53 (h1.1.k 9 rfl) (rfl) (h1.1.lt 9 rfl (by show LX j k m < 645; exact hlx)) (h1.1.b 9 rfl) ((congrFun (h1.1.a 9 rfl) _).trans (w1)) ?_
            refine r_iret hC hQ rfl dX8_leafShown_54 (Nat.le_of_ble_eq_true rfl) (Nat.le_of_ble_eq_true rfl) ?_
            rw [e]
            exact EM.ok h1 (hMC.n23 _) rfl rfl (if_pos ⟨hh, h0⟩).symm
          · have h0 : ¬ aTr A (aLs A j k m) ≠ 0 := fun z => (trV_ne ht16).mpr z h40
            refine r_iconst (v := (-1)) hC dX8_leafShown_43 (by decide) ?_
            refine r_goto (tgt := 54) hC dX8_leafShown_44 (by decide) ?_
            refine r_iret hC hQ rfl dX8_leafShown_54 (Nat.le_of_ble_eq_true rfl) (Nat.le_of_ble_eq_true rfl) ?_
            rw [e]
            exact EM.ok h1 (hMC.n23 _) rfl rfl (if_neg (fun z => h0 z.2)).symm
        · rw [if_neg hh] at w1 w2
          refine r_istore hC dX8_leafShown_30 (by decide) ?_
          refine r_aload_n hC dX8_leafShown_32 rfl rfl ?_
          refine r_getR  hC fl_X8_37 dX8_leafShown_33 (h1.1.kd) (h1.1.r 11 rfl) ?_
          refine r_iload hC dX8_leafShown_36 rfl ?_
          refine r_iald hC dX8_leafShown_38 (h1.1.k 11 rfl) (rfl) (h1.1.lt 11 rfl (by show LX j k m < 645; exact hlx)) (h1.1.b 11 rfl) ((congrFun (h1.1.a 11 rfl) _).trans (w2)) ?_
          refine r_iconst (v := (-1)) hC dX8_leafShown_39 (by decide) ?_
          refine r_icne (tgt := 47) hC dX8_leafShown_40 (by decide) (fun h40 => ?_) (fun h40 => ?_)
          · exact absurd rfl h40
          · refine r_iconst (v := (-1)) hC dX8_leafShown_43 (by decide) ?_
            refine r_goto (tgt := 54) hC dX8_leafShown_44 (by decide) ?_
            refine r_iret hC hQ rfl dX8_leafShown_54 (Nat.le_of_ble_eq_true rfl) (Nat.le_of_ble_eq_true rfl) ?_
            rw [e]
            exact EM.ok h1 (hMC.n23 _) rfl rfl (if_neg (fun z => hh z.1)).symm
set_option maxRecDepth 100000 in
theorem m_leaf (hl : l.stackTraces = false) (hM : MM S tg md V N R) (hv : VU A) (hMC : MC N R A) (o c f : Int32) :
    MT l G S yX8_leaf cX8_leaf 4 (some .int) (rmA 5) [va_rf (some md), .int o, .int c, .int f] (EM S tg md V (oLeaf A o c f)) (fun _ => False) := by
  refine MT_of (by decide +kernel) hl rfl (Nat.le_of_ble_eq_true rfl) (fun Z hC hzl hnm hT hQ => ?_)
  change J G Z S 0 0 0 [some (va_rf (some md)), some (.int o), some (.int c), some (.int f)] []
  have hzs : (zl Z).stackTraces = false := by rw [hzl]; exact hl
  refine r_aload_n hC dX8_leaf_0 rfl rfl ?_
  refine r_iload_n hC dX8_leaf_1 rfl rfl ?_
  refine r_iload_n hC dX8_leaf_2 rfl rfl ?_
  refine r_iload_n hC dX8_leaf_3 rfl rfl ?_
  refine r_cV (as := [.int o, .int c, .int f]) hC (m_leafShown hzs hM hv hMC o c f) cs_X8_leafShown q_1183 q_1185 q_71 (hM.kd) (by decide) rfl dX8_leaf_4 rfl rfl ⟨Nat.le_of_ble_eq_true rfl, Nat.le_of_ble_eq_true rfl⟩ (Nat.le_of_ble_eq_true rfl) ⟨Nat.le_of_ble_eq_true rfl, Nat.le_of_ble_eq_true rfl⟩ (fun v4 S4 p4 => ?_) (fun _ x => x.elim)
  obtain ⟨⟨x, rfl, hx⟩, rest⟩ := p4
  refine r_iret hC hQ rfl dX8_leaf_7 (Nat.le_of_ble_eq_true rfl) (Nat.le_of_ble_eq_true rfl) ?_
  exact ⟨⟨x, rfl, hx⟩, rest⟩
set_option maxRecDepth 100000 in
theorem m_leafByPiles (hl : l.stackTraces = false) (hM : MM S tg md V N R) (hv : VU A) (hMC : MC N R A) (o c f : Int32) :
    MT l G S yX8_leafByPiles cX8_leafByPiles 4 (some .int) (rmA 5) [va_rf (some md), .int o, .int c, .int f] (EM S tg md V (oLeaf A o c f)) (fun _ => False) := by
  refine MT_of (by decide +kernel) hl rfl (Nat.le_of_ble_eq_true rfl) (fun Z hC hzl hnm hT hQ => ?_)
  change J G Z S 0 0 0 [some (va_rf (some md)), some (.int o), some (.int c), some (.int f)] []
  have hzs : (zl Z).stackTraces = false := by rw [hzl]; exact hl
  refine r_aload_n hC dX8_leafByPiles_0 rfl rfl ?_
  refine r_iload_n hC dX8_leafByPiles_1 rfl rfl ?_
  refine r_iload_n hC dX8_leafByPiles_2 rfl rfl ?_
  refine r_iload_n hC dX8_leafByPiles_3 rfl rfl ?_
  refine r_cV (as := [.int o, .int c, .int f]) hC (m_leafShown hzs hM hv hMC o c f) cs_X8_leafShown q_1183 q_1185 q_71 (hM.kd) (by decide) rfl dX8_leafByPiles_4 rfl rfl ⟨Nat.le_of_ble_eq_true rfl, Nat.le_of_ble_eq_true rfl⟩ (Nat.le_of_ble_eq_true rfl) ⟨Nat.le_of_ble_eq_true rfl, Nat.le_of_ble_eq_true rfl⟩ (fun v4 S4 p4 => ?_) (fun _ x => x.elim)
  obtain ⟨⟨x, rfl, hx⟩, rest⟩ := p4
  refine r_iret hC hQ rfl dX8_leafByPiles_7 (Nat.le_of_ble_eq_true rfl) (Nat.le_of_ble_eq_true rfl) ?_
  exact ⟨⟨x, rfl, hx⟩, rest⟩
end MLeaf

