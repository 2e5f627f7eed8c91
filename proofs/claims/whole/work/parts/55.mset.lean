/-! ===== the model's small calls ===== -/
section MSet
variable {l : Launch} {G : GG} {S S0 S' : PS} {tg tg' : TG} {md : Nat} {V : Nat → Nat} {N : Nat → Int32} {R : Nat → Nat → Int32} {A : AS}
theorem m_isInL (hl : l.stackTraces = false) (x : Int32) {n : Nat} (hn : n < 1000) :
    MT l G S yX8_isIn cX8_isIn 3 (some .boolean) (rmA 0) [.int x, .int (nI 0), .int (nI n)] (fun v S' => v = some (.int (bI (ixb x (n + 1)))) ∧ S' = S) (fun _ => False) := by
  have := m_isInX (G := G) (S := S) hl x (n := n + 1) (by omega)
  rw [show (nI (n + 1) - nI 1 : Int32) = nI n from pk_sub (by omega)] at this
  exact this
theorem EM.ok {r : OP} {x : Int32} {N' : Nat → Int32} {R' : Nat → Nat → Int32} (h : MX S S' tg md V N' R') (hC : MC N' R' r.2.2) (h23 : N' 23 = nI 0) (hr : r.1 = 0) (hx : x = r.2.1) : EM S tg md V r (some (.int x)) S' :=
  ⟨⟨x, rfl, fun _ => hx⟩, _, _, h, hC, by rw [hr]; exact h23⟩
set_option maxRecDepth 100000 in
theorem m_spoiled (hl : l.stackTraces = false) (hM : MM S tg md V N R) (hMC : MC N R A) :
    MT l G S yX8_spoiled cX8_spoiled 1 (some .int) (rmA 0) [va_rf (some md)] (EM S tg md V (oSpoiled A)) (fun _ => False) := by
  refine MT_of (by decide +kernel) hl rfl (Nat.le_of_ble_eq_true rfl) (fun Z hC hzl hnm hT hQ => ?_)
  change J G Z S 0 0 0 [some (va_rf (some md))] []
  refine r_aload_n hC dX8_spoiled_0 rfl rfl ?_
  refine r_iconst (v := nI 0) hC dX8_spoiled_1 (by decide) ?_
  refine r_putI hC fl_X8_69 rfl (by decide) dX8_spoiled_2 (hM.kd) (fun h => absurd h (by decide)) ?_
  have h1 := (MX.rf hM).sn 23 rfl (nI 0)
  refine r_aload_n hC dX8_spoiled_5 rfl rfl ?_
  refine r_getI hC fl_X8_90 rfl dX8_spoiled_6 (h1.1.kd) (h1.1.n 19 rfl) ?_
  refine r_iret hC hQ rfl dX8_spoiled_9 (Nat.le_of_ble_eq_true rfl) (Nat.le_of_ble_eq_true rfl) ?_
  exact EM.ok h1 (hMC.n23 _) rfl rfl hMC.1.2.2.2.2
set_option maxRecDepth 100000 in
theorem m_setTolerance (hl : l.stackTraces = false) (hM : MM S tg md V N R) (hMC : MC N R A) (x : Int32) :
    MT l G S yX8_setTolerance cX8_setTolerance 3 (some .int) (rmA 2) [va_rf (some md), .int x] (EM S tg md V (oSetTol A x)) (fun _ => False) := by
  refine MT_of (by decide +kernel) hl rfl (Nat.le_of_ble_eq_true rfl) (fun Z hC hzl hnm hT hQ => ?_)
  change J G Z S 0 0 0 [some (va_rf (some md)), some (.int x), none] []
  have hzs : (zl Z).stackTraces = false := by rw [hzl]; exact hl
  refine r_aload_n hC dX8_setTolerance_0 rfl rfl ?_
  refine r_iload_n hC dX8_setTolerance_1 rfl rfl ?_
  refine r_iconst (v := nI 0) hC dX8_setTolerance_2 (by decide) ?_
  refine r_bipush (v := nI 15) hC dX8_setTolerance_3 (by decide) ?_
  refine r_cS (as := [.int x, .int (nI 0), .int (nI 15)]) hC (m_isIn hzs x (nI 0) (nI 15)) cs_X8_isIn q_1022 q_1023 dX8_setTolerance_5 rfl rfl ⟨Nat.le_of_ble_eq_true rfl, Nat.le_of_ble_eq_true rfl⟩ (Nat.le_of_ble_eq_true rfl) ⟨Nat.le_of_ble_eq_true rfl, Nat.le_of_ble_eq_true rfl⟩ (fun v5 S5 p5 => ?_) (fun _ x => x.elim)
  obtain ⟨rfl, e5⟩ := p5
  rw [e5]
  cases hb : decide (nI 0 ≤ x ∧ x ≤ nI 15) with
  | false =>
    refine r_ifeq (tgt := 15) hC dX8_setTolerance_8 (by decide) (fun h8 => ?_) (fun h8 => ?_)
    · refine r_iconst (v := nI 1) hC dX8_setTolerance_15 (by decide) ?_
      refine r_cV (as := [.int (nI 1)]) hC (m_goes hzs hM (nI 1)) cs_X8_goes q_1010 q_1012 q_52 (hM.kd) (by decide) rfl dX8_setTolerance_16 rfl rfl ⟨Nat.le_of_ble_eq_true rfl, Nat.le_of_ble_eq_true rfl⟩ (Nat.le_of_ble_eq_true rfl) ⟨Nat.le_of_ble_eq_true rfl, Nat.le_of_ble_eq_true rfl⟩ (fun v16 S16 p16 => ?_) (fun _ x => x.elim)
      obtain ⟨rfl, h1⟩ := p16
      refine r_ifne (tgt := 24) hC dX8_setTolerance_19 (by decide) (fun h19 => ?_) (fun h19 => ?_)
      · exact absurd rfl h19
      · refine r_iconst (v := nI 0) hC dX8_setTolerance_22 (by decide) ?_
        refine r_iret hC hQ rfl dX8_setTolerance_23 (Nat.le_of_ble_eq_true rfl) (Nat.le_of_ble_eq_true rfl) ?_
        exact EM.thr h1 hMC ⟨1, by unfold oSetTol rgb; rw [if_neg (by rw [hb]; decide)], by decide, rfl⟩ ⟨_, rfl⟩
    · exact absurd rfl h8
  | true =>
    obtain ⟨r1, r2⟩ := of_decide_eq_true hb
    obtain ⟨y, hy, rfl⟩ := rgb_n (by decide) r1 r2
    refine r_ifeq (tgt := 15) hC dX8_setTolerance_8 (by decide) (fun h8 => ?_) (fun h8 => ?_)
    · exact absurd h8 (by decide)
    · refine r_iconst (v := nI 0) hC dX8_setTolerance_11 (by decide) ?_
      refine r_goto (tgt := 16) hC dX8_setTolerance_12 (by decide) ?_
      refine r_cV (as := [.int (nI 0)]) hC (m_goes hzs hM (nI 0)) cs_X8_goes q_1010 q_1012 q_52 (hM.kd) (by decide) rfl dX8_setTolerance_16 rfl rfl ⟨Nat.le_of_ble_eq_true rfl, Nat.le_of_ble_eq_true rfl⟩ (Nat.le_of_ble_eq_true rfl) ⟨Nat.le_of_ble_eq_true rfl, Nat.le_of_ble_eq_true rfl⟩ (fun v16 S16 p16 => ?_) (fun _ x => x.elim)
      obtain ⟨rfl, h1⟩ := p16
      refine r_ifne (tgt := 24) hC dX8_setTolerance_19 (by decide) (fun h19 => ?_) (fun h19 => ?_)
      · refine r_aload_n hC dX8_setTolerance_24 rfl rfl ?_
        refine r_getI hC fl_X8_56 rfl dX8_setTolerance_25 (h1.1.kd) (h1.1.n 18 rfl) ?_
        refine r_istore_n hC dX8_setTolerance_28 rfl (by decide) ?_
        refine r_aload_n hC dX8_setTolerance_29 rfl rfl ?_
        refine r_iload_n hC dX8_setTolerance_30 rfl rfl ?_
        refine r_putI hC fl_X8_56 rfl (by decide) dX8_setTolerance_31 (h1.1.kd) (fun h => absurd h (by decide)) ?_
        have h2 := h1.sn 18 rfl (nI y)
        refine r_iload_n hC dX8_setTolerance_34 rfl rfl ?_
        refine r_iret hC hQ rfl dX8_setTolerance_35 (Nat.le_of_ble_eq_true rfl) (Nat.le_of_ble_eq_true rfl) ?_
        have e : oSetTol A (nI y) = (0, nI (aTol A), uD A 0 3 0 0 y) := by unfold oSetTol; rw [if_pos (rgb_t r1 r2), ii_n (by omega)]
        rw [e]
        obtain ⟨⟨n1, n2, n3, n4, n5⟩, rest⟩ := hMC
        exact EM.ok h2 ⟨⟨n1, n2, n3, rfl, n5⟩, rest⟩ rfl rfl n4
      · exact absurd h19 (by decide)
set_option maxRecDepth 100000 in
theorem m_sharpen (hl : l.stackTraces = false) (hM : MM S tg md V N R) (hMC : MC N R A) (x : Int32) :
    MT l G S yX8_sharpen cX8_sharpen 3 (some .int) (rmA 2) [va_rf (some md), .int x] (EM S tg md V (oSharpen A x)) (fun _ => False) := by
  refine MT_of (by decide +kernel) hl rfl (Nat.le_of_ble_eq_true rfl) (fun Z hC hzl hnm hT hQ => ?_)
  change J G Z S 0 0 0 [some (va_rf (some md)), some (.int x), none] []
  have hzs : (zl Z).stackTraces = false := by rw [hzl]; exact hl
  refine r_aload_n hC dX8_sharpen_0 rfl rfl ?_
  refine r_iload_n hC dX8_sharpen_1 rfl rfl ?_
  refine r_iconst (v := nI 0) hC dX8_sharpen_2 (by decide) ?_
  refine r_iconst (v := nI 1) hC dX8_sharpen_3 (by decide) ?_
  refine r_cS (as := [.int x, .int (nI 0), .int (nI 1)]) hC (m_isInL hzs x (n := 1) (by decide)) cs_X8_isIn q_1022 q_1023 dX8_sharpen_4 rfl rfl ⟨Nat.le_of_ble_eq_true rfl, Nat.le_of_ble_eq_true rfl⟩ (Nat.le_of_ble_eq_true rfl) ⟨Nat.le_of_ble_eq_true rfl, Nat.le_of_ble_eq_true rfl⟩ (fun v4 S4 p4 => ?_) (fun _ x => x.elim)
  obtain ⟨rfl, e4⟩ := p4
  rw [e4]
  cases hb : ixb x 2 with
  | false =>
    refine r_ifeq (tgt := 14) hC dX8_sharpen_7 (by decide) (fun h7 => ?_) (fun h7 => ?_)
    · refine r_iconst (v := nI 1) hC dX8_sharpen_14 (by decide) ?_
      refine r_cV (as := [.int (nI 1)]) hC (m_goes hzs hM (nI 1)) cs_X8_goes q_1010 q_1012 q_52 (hM.kd) (by decide) rfl dX8_sharpen_15 rfl rfl ⟨Nat.le_of_ble_eq_true rfl, Nat.le_of_ble_eq_true rfl⟩ (Nat.le_of_ble_eq_true rfl) ⟨Nat.le_of_ble_eq_true rfl, Nat.le_of_ble_eq_true rfl⟩ (fun v15 S15 p15 => ?_) (fun _ x => x.elim)
      obtain ⟨rfl, h1⟩ := p15
      refine r_ifne (tgt := 23) hC dX8_sharpen_18 (by decide) (fun h18 => ?_) (fun h18 => ?_)
      · exact absurd rfl h18
      · refine r_iconst (v := nI 0) hC dX8_sharpen_21 (by decide) ?_
        refine r_iret hC hQ rfl dX8_sharpen_22 (Nat.le_of_ble_eq_true rfl) (Nat.le_of_ble_eq_true rfl) ?_
        exact EM.thr h1 hMC ⟨1, by unfold oSharpen; rw [if_neg (by rw [hb]; decide)], by decide, rfl⟩ ⟨_, rfl⟩
    · exact absurd rfl h7
  | true =>
    obtain ⟨k, hk, rfl, hkk⟩ := ixb_of (by decide) hb
    have hdu := hMC.2.2.2.2.2.2 k hk
    refine r_ifeq (tgt := 14) hC dX8_sharpen_7 (by decide) (fun h7 => ?_) (fun h7 => ?_)
    · exact absurd h7 (by decide)
    · refine r_iconst (v := nI 0) hC dX8_sharpen_10 (by decide) ?_
      refine r_goto (tgt := 15) hC dX8_sharpen_11 (by decide) ?_
      refine r_cV (as := [.int (nI 0)]) hC (m_goes hzs hM (nI 0)) cs_X8_goes q_1010 q_1012 q_52 (hM.kd) (by decide) rfl dX8_sharpen_15 rfl rfl ⟨Nat.le_of_ble_eq_true rfl, Nat.le_of_ble_eq_true rfl⟩ (Nat.le_of_ble_eq_true rfl) ⟨Nat.le_of_ble_eq_true rfl, Nat.le_of_ble_eq_true rfl⟩ (fun v15 S15 p15 => ?_) (fun _ x => x.elim)
      obtain ⟨rfl, h1⟩ := p15
      refine r_ifne (tgt := 23) hC dX8_sharpen_18 (by decide) (fun h18 => ?_) (fun h18 => ?_)
      · refine r_aload_n hC dX8_sharpen_23 rfl rfl ?_
        refine r_getR  hC fl_X8_53 dX8_sharpen_24 (h1.1.kd) (h1.1.r 17 rfl) ?_
        refine r_iload_n hC dX8_sharpen_27 rfl rfl ?_
        refine r_iald hC dX8_sharpen_28 (h1.1.k 17 rfl) (rfl) (h1.1.lt 17 rfl (by show _ < 2; omega)) (h1.1.b 17 rfl) ((congrFun (h1.1.a 17 rfl) _).trans (hdu)) ?_
        refine r_istore_n hC dX8_sharpen_29 rfl (by decide) ?_
        refine r_aload_n hC dX8_sharpen_30 rfl rfl ?_
        refine r_getR  hC fl_X8_53 dX8_sharpen_31 (h1.1.kd) (h1.1.r 17 rfl) ?_
        refine r_iload_n hC dX8_sharpen_34 rfl rfl ?_
        refine r_iconst (v := nI 0) hC dX8_sharpen_35 (by decide) ?_
        refine r_iast hC dX8_sharpen_36 (h1.1.k 17 rfl) (rfl) (h1.1.lt 17 rfl (by show _ < 2; omega)) (h1.1.b 17 rfl) ?_
        have h2 := h1.su 17 rfl k (nI 0)
        refine r_iload_n hC dX8_sharpen_37 rfl rfl ?_
        refine r_iret hC hQ rfl dX8_sharpen_38 (Nat.le_of_ble_eq_true rfl) (Nat.le_of_ble_eq_true rfl) ?_
        have e : oSharpen A (nI k) = (0, nI (aDl A k), uD A 10 k 0 0 0) := by unfold oSharpen; rw [if_pos hb, hkk]
        rw [e]
        obtain ⟨a1, a2, a3, a4, a5, a6, a7⟩ := hMC
        refine EM.ok h2 ⟨a1, a2, a3, a4, a5, a6, fun j hj => ?_⟩ rfl rfl rfl
        show upd (R 17) k (nI 0) j = nI (if j = k ∧ (0 : Nat) = 0 ∧ (0 : Nat) = 0 then 0 else aDl A j)
        by_cases hz : j = k
        · rw [hz, pk_us, if_pos ⟨rfl, rfl, rfl⟩]
        · rw [pk_un hz, if_neg (fun z => hz z.1)]
          exact a7 j hj
      · exact absurd h18 (by decide)
set_option maxRecDepth 100000 in
theorem m_waiting (hl : l.stackTraces = false) (hM : MM S tg md V N R) (hv : VU A) (hMC : MC N R A) :
    MT l G S yX8_waiting cX8_waiting 3 (some .int) (rmA 0) [va_rf (some md)] (EM S tg md V (oWaiting A)) (fun _ => False) := by
  have h50 := hv.2.2.1
  refine MT_of (by decide +kernel) hl rfl (Nat.le_of_ble_eq_true rfl) (fun Z hC hzl hnm hT hQ => ?_)
  change J G Z S 0 0 0 [some (va_rf (some md)), none, none] []
  refine r_aload_n hC dX8_waiting_0 rfl rfl ?_
  refine r_iconst (v := nI 0) hC dX8_waiting_1 (by decide) ?_
  refine r_putI hC fl_X8_69 rfl (by decide) dX8_waiting_2 (hM.kd) (fun h => absurd h (by decide)) ?_
  have h1 := (MX.rf hM).sn 23 rfl (nI 0)
  have loop : ∀ (d j : Nat), j + d = aNs A → J G Z (sI S 279 md (nI 0)) 0 0 9 [some (va_rf (some md)), some (.int (nI (wtN A j))), some (.int (nI j))] [] := by
    intro d
    induction d with
    | zero =>
      intro j hj
      have hj : j = aNs A := by omega
      subst hj
      refine r_iload_n hC dX8_waiting_9 rfl rfl ?_
      refine r_aload_n hC dX8_waiting_10 rfl rfl ?_
      refine r_getI hC fl_X8_143 rfl dX8_waiting_11 (h1.1.kd) ((h1.1.n 14 rfl).trans hMC.1.2.2.1) ?_
      refine r_icge (tgt := 40) hC dX8_waiting_14 (by decide) (fun h14 => ?_) (fun h14 => ?_)
      · refine r_iload_n hC dX8_waiting_40 rfl rfl ?_
        refine r_iret hC hQ rfl dX8_waiting_41 (Nat.le_of_ble_eq_true rfl) (Nat.le_of_ble_eq_true rfl) ?_
        exact EM.ok h1 (hMC.n23 _) rfl rfl rfl
      · exact absurd (Int32.le_refl _) h14
    | succ d ih =>
      intro j hj
      have hjn : j < aNs A := by omega
      have hw := (hMC.2.2.2.2.2.1 j hjn).1
      have hw1 := (hv.2.2.2.2.2.2.2.2.1 j hjn).1
      refine r_iload_n hC dX8_waiting_9 rfl rfl ?_
      refine r_aload_n hC dX8_waiting_10 rfl rfl ?_
      refine r_getI hC fl_X8_143 rfl dX8_waiting_11 (h1.1.kd) ((h1.1.n 14 rfl).trans hMC.1.2.2.1) ?_
      refine r_icge (tgt := 40) hC dX8_waiting_14 (by decide) (fun h14 => ?_) (fun h14 => ?_)
      · exact absurd ((nI_leI (by omega) (by omega)).mp h14) (by omega)
      · skip
        refine r_iload_n hC dX8_waiting_17 rfl rfl ?_
        refine r_aload_n hC dX8_waiting_18 rfl rfl ?_
        refine r_getR  hC fl_X8_49 dX8_waiting_19 (h1.1.kd) (h1.1.r 16 rfl) ?_
        refine r_iload_n hC dX8_waiting_22 rfl rfl ?_
        refine r_zald hC dX8_waiting_23 (h1.1.k 16 rfl) (rfl) (h1.1.lt 16 rfl (by show _ < 50; omega)) (h1.1.b 16 rfl) ((congrFun (h1.1.a 16 rfl) _).trans (hw)) ?_
        refine r_ifeq (tgt := 31) hC dX8_waiting_24 (by decide) (fun h24 => ?_) (fun h24 => ?_)
        · have hz : aWt A j ≠ 1 := fun z => by rw [z] at h24; exact absurd h24 (by decide)
          refine r_iconst (v := nI 0) hC dX8_waiting_31 (by decide) ?_
          refine r_iadd hC dX8_waiting_32 ?_
          rw [nI_add]
          refine r_istore_n hC dX8_waiting_33 rfl (by decide) ?_
          refine r_iinc hC dX8_waiting_34 rfl (ii1 _) ?_
          refine r_goto (tgt := 9) hC dX8_waiting_37 (by decide) ?_
          have := ih (j + 1) (by omega)
          have e : wtN A (j + 1) = wtN A j + 0 := by simp only [wtN, ct, decide_eq_false hz, Bool.false_eq_true, if_false]
          rw [e] at this
          exact this
        · have hz : aWt A j = 1 := by
            have : aWt A j ≠ 0 := fun z => h24 (by rw [z]; rfl)
            omega
          refine r_iconst (v := nI 1) hC dX8_waiting_27 (by decide) ?_
          refine r_goto (tgt := 32) hC dX8_waiting_28 (by decide) ?_
          refine r_iadd hC dX8_waiting_32 ?_
          rw [nI_add]
          refine r_istore_n hC dX8_waiting_33 rfl (by decide) ?_
          refine r_iinc hC dX8_waiting_34 rfl (ii1 _) ?_
          refine r_goto (tgt := 9) hC dX8_waiting_37 (by decide) ?_
          have := ih (j + 1) (by omega)
          have e : wtN A (j + 1) = wtN A j + 1 := by simp only [wtN, ct, decide_eq_true hz, if_true]
          rw [e] at this
          exact this
  refine r_iconst (v := nI 0) hC dX8_waiting_5 (by decide) ?_
  refine r_istore_n hC dX8_waiting_6 rfl (by decide) ?_
  refine r_iconst (v := nI 0) hC dX8_waiting_7 (by decide) ?_
  refine r_istore_n hC dX8_waiting_8 rfl (by decide) ?_
  exact loop (aNs A) 0 (by omega)
set_option maxRecDepth 100000 in
theorem m_onSheet (hl : l.stackTraces = false) (hM : MM S tg md V N R) (hv : VU A) (hMC : MC N R A) (s x : Int32) :
    MT l G S yX8_onSheet cX8_onSheet 3 (some .int) (rmA 2) [va_rf (some md), .int s, .int x] (EM S tg md V (oOnSheet A s x)) (fun _ => False) := by
  have h50 := hv.2.2.1
  refine MT_of (by decide +kernel) hl rfl (Nat.le_of_ble_eq_true rfl) (fun Z hC hzl hnm hT hQ => ?_)
  change J G Z S 0 0 0 [some (va_rf (some md)), some (.int s), some (.int x)] []
  have hzs : (zl Z).stackTraces = false := by rw [hzl]; exact hl
  have thr : ∀ k, k ≠ 0 → k < 10 → oOnSheet A s x = (k, 0, A) → J G Z S 0 0 34 [some (va_rf (some md)), some (.int s), some (.int x)] [.int (nI k), va_rf (some md)] := by
    intro k hk0 hk e
    have hd : decide (nI k = 0) = false := decide_eq_false (nI_ne0 (by omega) (by omega))
    refine r_cV (as := [.int (nI k)]) hC (m_goes hzs hM (nI k)) cs_X8_goes q_1010 q_1012 q_52 (hM.kd) (by decide) rfl dX8_onSheet_34 rfl rfl ⟨Nat.le_of_ble_eq_true rfl, Nat.le_of_ble_eq_true rfl⟩ (Nat.le_of_ble_eq_true rfl) ⟨Nat.le_of_ble_eq_true rfl, Nat.le_of_ble_eq_true rfl⟩ (fun v34 S34 p34 => ?_) (fun _ x => x.elim)
    obtain ⟨rfl, h1⟩ := p34
    rw [hd]
    refine r_ifne (tgt := 42) hC dX8_onSheet_37 (by decide) (fun h37 => ?_) (fun h37 => ?_)
    · exact absurd rfl h37
    · refine r_iconst (v := nI 0) hC dX8_onSheet_40 (by decide) ?_
      refine r_iret hC hQ rfl dX8_onSheet_41 (Nat.le_of_ble_eq_true rfl) (Nat.le_of_ble_eq_true rfl) ?_
      exact EM.thr h1 hMC ⟨k, e, hk0, rfl⟩ ⟨_, rfl⟩
  refine r_aload_n hC dX8_onSheet_0 rfl rfl ?_
  refine r_iload_n hC dX8_onSheet_1 rfl rfl ?_
  refine r_iconst (v := nI 0) hC dX8_onSheet_2 (by decide) ?_
  refine r_bipush (v := nI 7) hC dX8_onSheet_3 (by decide) ?_
  refine r_cS (as := [.int x, .int (nI 0), .int (nI 7)]) hC (m_isInL hzs x (n := 7) (by decide)) cs_X8_isIn q_1022 q_1023 dX8_onSheet_5 rfl rfl ⟨Nat.le_of_ble_eq_true rfl, Nat.le_of_ble_eq_true rfl⟩ (Nat.le_of_ble_eq_true rfl) ⟨Nat.le_of_ble_eq_true rfl, Nat.le_of_ble_eq_true rfl⟩ (fun v5 S5 p5 => ?_) (fun _ x => x.elim)
  obtain ⟨rfl, e5⟩ := p5
  rw [e5]
  cases hx : ixb x 8 with
  | false =>
    refine r_ifne (tgt := 15) hC dX8_onSheet_8 (by decide) (fun h8 => ?_) (fun h8 => ?_)
    · exact absurd rfl h8
    · refine r_iconst (v := nI 1) hC dX8_onSheet_11 (by decide) ?_
      refine r_goto (tgt := 34) hC dX8_onSheet_12 (by decide) ?_
      exact thr 1 (by decide) (by decide) (by unfold oOnSheet; rw [if_neg (by rw [hx]; decide)])
  | true =>
    obtain ⟨y, hy, rfl, hyy⟩ := ixb_of (by decide) hx
    refine r_ifne (tgt := 15) hC dX8_onSheet_8 (by decide) (fun h8 => ?_) (fun h8 => ?_)
    rotate_left
    · exact absurd h8 (by decide)
    · refine r_iload_n hC dX8_onSheet_15 rfl rfl ?_
      refine r_iconst (v := nI 0) hC dX8_onSheet_16 (by decide) ?_
      refine r_aload_n hC dX8_onSheet_17 rfl rfl ?_
      refine r_getI hC fl_X8_143 rfl dX8_onSheet_18 (hM.kd) ((hM.n 14 rfl).trans hMC.1.2.2.1) ?_
      refine r_iconst (v := nI 1) hC dX8_onSheet_21 (by decide) ?_
      refine r_isub hC dX8_onSheet_22 ?_
      refine r_cS (as := [.int s, .int (nI 0), .int (nI (aNs A) - nI 1)]) hC (m_isInX hzs s (n := aNs A) (by omega)) cs_X8_isIn q_1022 q_1023 dX8_onSheet_23 rfl rfl ⟨Nat.le_of_ble_eq_true rfl, Nat.le_of_ble_eq_true rfl⟩ (Nat.le_of_ble_eq_true rfl) ⟨Nat.le_of_ble_eq_true rfl, Nat.le_of_ble_eq_true rfl⟩ (fun v23 S23 p23 => ?_) (fun _ x => x.elim)
      obtain ⟨rfl, e23⟩ := p23
      rw [e23]
      cases hs : ixb s (aNs A) with
      | false =>
        refine r_ifeq (tgt := 33) hC dX8_onSheet_26 (by decide) (fun h26 => ?_) (fun h26 => ?_)
        · refine r_iconst (v := nI 2) hC dX8_onSheet_33 (by decide) ?_
          exact thr 2 (by decide) (by decide) (by unfold oOnSheet; rw [if_pos hx, if_neg (by rw [hs]; decide)])
        · exact absurd rfl h26
      | true =>
        obtain ⟨j, hj, rfl, hjj⟩ := ixb_of (by omega) hs
        have hl15 := (hMC.2.2.2.2.2.1 j hj).2 y hy
        refine r_ifeq (tgt := 33) hC dX8_onSheet_26 (by decide) (fun h26 => ?_) (fun h26 => ?_)
        · exact absurd h26 (by decide)
        · refine r_iconst (v := nI 0) hC dX8_onSheet_29 (by decide) ?_
          refine r_goto (tgt := 34) hC dX8_onSheet_30 (by decide) ?_
          refine r_cV (as := [.int (nI 0)]) hC (m_goes hzs hM (nI 0)) cs_X8_goes q_1010 q_1012 q_52 (hM.kd) (by decide) rfl dX8_onSheet_34 rfl rfl ⟨Nat.le_of_ble_eq_true rfl, Nat.le_of_ble_eq_true rfl⟩ (Nat.le_of_ble_eq_true rfl) ⟨Nat.le_of_ble_eq_true rfl, Nat.le_of_ble_eq_true rfl⟩ (fun v34 S34 p34 => ?_) (fun _ x => x.elim)
          obtain ⟨rfl, h1⟩ := p34
          refine r_ifne (tgt := 42) hC dX8_onSheet_37 (by decide) (fun h37 => ?_) (fun h37 => ?_)
          · refine r_aload_n hC dX8_onSheet_42 rfl rfl ?_
            refine r_getR  hC fl_X8_46 dX8_onSheet_43 (h1.1.kd) (h1.1.r 15 rfl) ?_
            refine r_bipush (v := nI 8) hC dX8_onSheet_46 (by decide) ?_
            refine r_iload_n hC dX8_onSheet_48 rfl rfl ?_
            refine r_imul hC dX8_onSheet_49 ?_
            refine r_iload_n hC dX8_onSheet_50 rfl rfl ?_
            refine r_iadd hC dX8_onSheet_51 ?_
            refine r_iald hC dX8_onSheet_52 (h1.1.k 15 rfl) (by rw [pk_mul, nI_add]) (h1.1.lt 15 rfl (by show _ < 400; omega)) (h1.1.b 15 rfl) ((congrFun (h1.1.a 15 rfl) _).trans (hl15)) ?_
            refine r_iret hC hQ rfl dX8_onSheet_53 (Nat.le_of_ble_eq_true rfl) (Nat.le_of_ble_eq_true rfl) ?_
            have e : oOnSheet A (nI j) (nI y) = (0, trV (aLi A j y), A) := by unfold oOnSheet; rw [if_pos hx, if_pos hs, hjj, hyy]
            rw [e]
            exact EM.ok h1 (hMC.n23 _) rfl rfl rfl
          · exact absurd h37 (by decide)
set_option maxRecDepth 100000 in
theorem m_cellOf (hl : l.stackTraces = false) (hM : MM S tg md V N R) (hMC : MC N R A) (x : Int32) :
    MT l G S yX8_cellOf cX8_cellOf 2 (some .int) (rmA 2) [va_rf (some md), .int x] (EM S tg md V (oCellOf A x)) (fun _ => False) := by
  refine MT_of (by decide +kernel) hl rfl (Nat.le_of_ble_eq_true rfl) (fun Z hC hzl hnm hT hQ => ?_)
  change J G Z S 0 0 0 [some (va_rf (some md)), some (.int x)] []
  have hzs : (zl Z).stackTraces = false := by rw [hzl]; exact hl
  refine r_aload_n hC dX8_cellOf_0 rfl rfl ?_
  refine r_iload_n hC dX8_cellOf_1 rfl rfl ?_
  refine r_iconst (v := nI 0) hC dX8_cellOf_2 (by decide) ?_
  refine r_bipush (v := nI 7) hC dX8_cellOf_3 (by decide) ?_
  refine r_cS (as := [.int x, .int (nI 0), .int (nI 7)]) hC (m_isInL hzs x (n := 7) (by decide)) cs_X8_isIn q_1022 q_1023 dX8_cellOf_5 rfl rfl ⟨Nat.le_of_ble_eq_true rfl, Nat.le_of_ble_eq_true rfl⟩ (Nat.le_of_ble_eq_true rfl) ⟨Nat.le_of_ble_eq_true rfl, Nat.le_of_ble_eq_true rfl⟩ (fun v5 S5 p5 => ?_) (fun _ x => x.elim)
  obtain ⟨rfl, e5⟩ := p5
  rw [e5]
  cases hx : ixb x 8 with
  | false =>
    refine r_ifeq (tgt := 15) hC dX8_cellOf_8 (by decide) (fun h8 => ?_) (fun h8 => ?_)
    · refine r_iconst (v := nI 1) hC dX8_cellOf_15 (by decide) ?_
      refine r_cV (as := [.int (nI 1)]) hC (m_goes hzs hM (nI 1)) cs_X8_goes q_1010 q_1012 q_52 (hM.kd) (by decide) rfl dX8_cellOf_16 rfl rfl ⟨Nat.le_of_ble_eq_true rfl, Nat.le_of_ble_eq_true rfl⟩ (Nat.le_of_ble_eq_true rfl) ⟨Nat.le_of_ble_eq_true rfl, Nat.le_of_ble_eq_true rfl⟩ (fun v16 S16 p16 => ?_) (fun _ x => x.elim)
      obtain ⟨rfl, h1⟩ := p16
      refine r_ifeq (tgt := 31) hC dX8_cellOf_19 (by decide) (fun h19 => ?_) (fun h19 => ?_)
      · refine r_iconst (v := nI 0) hC dX8_cellOf_31 (by decide) ?_
        refine r_iret hC hQ rfl dX8_cellOf_32 (Nat.le_of_ble_eq_true rfl) (Nat.le_of_ble_eq_true rfl) ?_
        exact EM.thr h1 hMC ⟨1, by unfold oCellOf; rw [if_neg (by rw [hx]; decide)], by decide, rfl⟩ ⟨_, rfl⟩
      · exact absurd rfl h19
    · exact absurd rfl h8
  | true =>
    obtain ⟨p, hp, rfl, hpp⟩ := ixb_of (by decide) hx
    have hc := hMC.2.2.2.2.1.2 p hp
    refine r_ifeq (tgt := 15) hC dX8_cellOf_8 (by decide) (fun h8 => ?_) (fun h8 => ?_)
    · exact absurd h8 (by decide)
    · refine r_iconst (v := nI 0) hC dX8_cellOf_11 (by decide) ?_
      refine r_goto (tgt := 16) hC dX8_cellOf_12 (by decide) ?_
      refine r_cV (as := [.int (nI 0)]) hC (m_goes hzs hM (nI 0)) cs_X8_goes q_1010 q_1012 q_52 (hM.kd) (by decide) rfl dX8_cellOf_16 rfl rfl ⟨Nat.le_of_ble_eq_true rfl, Nat.le_of_ble_eq_true rfl⟩ (Nat.le_of_ble_eq_true rfl) ⟨Nat.le_of_ble_eq_true rfl, Nat.le_of_ble_eq_true rfl⟩ (fun v16 S16 p16 => ?_) (fun _ x => x.elim)
      obtain ⟨rfl, h1⟩ := p16
      refine r_ifeq (tgt := 31) hC dX8_cellOf_19 (by decide) (fun h19 => ?_) (fun h19 => ?_)
      · exact absurd h19 (by decide)
      · refine r_aload_n hC dX8_cellOf_22 rfl rfl ?_
        refine r_getR  hC fl_X8_43 dX8_cellOf_23 (h1.1.kd) (h1.1.r 13 rfl) ?_
        refine r_iload_n hC dX8_cellOf_26 rfl rfl ?_
        refine r_iald hC dX8_cellOf_27 (h1.1.k 13 rfl) (rfl) (h1.1.lt 13 rfl (by show _ < 8; omega)) (h1.1.b 13 rfl) ((congrFun (h1.1.a 13 rfl) _).trans (hc)) ?_
        refine r_goto (tgt := 32) hC dX8_cellOf_28 (by decide) ?_
        refine r_iret hC hQ rfl dX8_cellOf_32 (Nat.le_of_ble_eq_true rfl) (Nat.le_of_ble_eq_true rfl) ?_
        have e : oCellOf A (nI p) = (0, nI (unf (aFd A) p), A) := by unfold oCellOf; rw [if_pos hx, hpp]
        rw [e]
        exact EM.ok h1 (hMC.n23 _) rfl rfl rfl
set_option maxRecDepth 100000 in
theorem m_placeOf (hl : l.stackTraces = false) (hM : MM S tg md V N R) (hv : VU A) (hMC : MC N R A) (x : Int32) :
    MT l G S yX8_placeOf cX8_placeOf 5 (some .int) (rmA 2) [va_rf (some md), .int x] (EM S tg md V (oPlaceOf A x)) (fun _ => False) := by
  have hok := hv.2.2.2.2.2.2.2.1
  refine MT_of (by decide +kernel) hl rfl (Nat.le_of_ble_eq_true rfl) (fun Z hC hzl hnm hT hQ => ?_)
  change J G Z S 0 0 0 [some (va_rf (some md)), some (.int x), none, none, none] []
  have hzs : (zl Z).stackTraces = false := by rw [hzl]; exact hl
  refine r_iconst (v := nI 0) hC dX8_placeOf_0 (by decide) ?_
  refine r_istore_n hC dX8_placeOf_1 rfl (by decide) ?_
  refine r_aload_n hC dX8_placeOf_2 rfl rfl ?_
  refine r_iload_n hC dX8_placeOf_3 rfl rfl ?_
  refine r_iconst (v := nI 0) hC dX8_placeOf_4 (by decide) ?_
  refine r_bipush (v := nI 7) hC dX8_placeOf_5 (by decide) ?_
  refine r_cS (as := [.int x, .int (nI 0), .int (nI 7)]) hC (m_isInL hzs x (n := 7) (by decide)) cs_X8_isIn q_1022 q_1023 dX8_placeOf_7 rfl rfl ⟨Nat.le_of_ble_eq_true rfl, Nat.le_of_ble_eq_true rfl⟩ (Nat.le_of_ble_eq_true rfl) ⟨Nat.le_of_ble_eq_true rfl, Nat.le_of_ble_eq_true rfl⟩ (fun v7 S7 p7 => ?_) (fun _ x => x.elim)
  obtain ⟨rfl, e7⟩ := p7
  rw [e7]
  cases hx : ixb x 8 with
  | false =>
    refine r_ifeq (tgt := 17) hC dX8_placeOf_10 (by decide) (fun h10 => ?_) (fun h10 => ?_)
    · refine r_iconst (v := nI 1) hC dX8_placeOf_17 (by decide) ?_
      refine r_cV (as := [.int (nI 1)]) hC (m_goes hzs hM (nI 1)) cs_X8_goes q_1010 q_1012 q_52 (hM.kd) (by decide) rfl dX8_placeOf_18 rfl rfl ⟨Nat.le_of_ble_eq_true rfl, Nat.le_of_ble_eq_true rfl⟩ (Nat.le_of_ble_eq_true rfl) ⟨Nat.le_of_ble_eq_true rfl, Nat.le_of_ble_eq_true rfl⟩ (fun v18 S18 p18 => ?_) (fun _ x => x.elim)
      obtain ⟨rfl, h1⟩ := p18
      refine r_istore_n hC dX8_placeOf_21 rfl (by decide) ?_
      refine r_iconst (v := nI 0) hC dX8_placeOf_22 (by decide) ?_
      refine r_istore hC dX8_placeOf_23 (by decide) ?_
      refine r_iload hC dX8_placeOf_25 rfl ?_
      refine r_bipush (v := nI 8) hC dX8_placeOf_27 (by decide) ?_
      refine r_icge (tgt := 60) hC dX8_placeOf_29 (by decide) (fun h29 => ?_) (fun h29 => ?_)
      · exact absurd h29 (by decide)
      · refine r_iload_n hC dX8_placeOf_32 rfl rfl ?_
        refine r_ifeq (tgt := 60) hC dX8_placeOf_33 (by decide) (fun h33 => ?_) (fun h33 => ?_)
        · refine r_iload_n hC dX8_placeOf_60 rfl rfl ?_
          refine r_iret hC hQ rfl dX8_placeOf_61 (Nat.le_of_ble_eq_true rfl) (Nat.le_of_ble_eq_true rfl) ?_
          exact EM.thr h1 hMC ⟨1, by unfold oPlaceOf; rw [if_neg (by rw [hx]; decide)], by decide, rfl⟩ ⟨_, rfl⟩
        · exact absurd rfl h33
    · exact absurd rfl h10
  | true =>
    obtain ⟨c, hc, rfl, hcc⟩ := ixb_of (by decide) hx
    refine r_ifeq (tgt := 17) hC dX8_placeOf_10 (by decide) (fun h10 => ?_) (fun h10 => ?_)
    · exact absurd h10 (by decide)
    · refine r_iconst (v := nI 0) hC dX8_placeOf_13 (by decide) ?_
      refine r_goto (tgt := 18) hC dX8_placeOf_14 (by decide) ?_
      refine r_cV (as := [.int (nI 0)]) hC (m_goes hzs hM (nI 0)) cs_X8_goes q_1010 q_1012 q_52 (hM.kd) (by decide) rfl dX8_placeOf_18 rfl rfl ⟨Nat.le_of_ble_eq_true rfl, Nat.le_of_ble_eq_true rfl⟩ (Nat.le_of_ble_eq_true rfl) ⟨Nat.le_of_ble_eq_true rfl, Nat.le_of_ble_eq_true rfl⟩ (fun v18 S18 p18 => ?_) (fun _ x => x.elim)
      obtain ⟨rfl, h1⟩ := p18
      have e : oPlaceOf A (nI c) = (0, nI (plF (aFd A) c 8), A) := by unfold oPlaceOf; rw [if_pos hx, hcc]
      have loop : ∀ (d p : Nat), p + d = 8 → J G Z S18 0 0 25 [some (va_rf (some md)), some (.int (nI c)), some (.int (nI (plF (aFd A) c p))), some (.int (bI (decide (nI 0 = 0)))), some (.int (nI p))] [] := by
        intro d
        induction d with
        | zero =>
          intro p hp
          have hp : p = 8 := by omega
          subst hp
          refine r_iload hC dX8_placeOf_25 rfl ?_
          refine r_bipush (v := nI 8) hC dX8_placeOf_27 (by decide) ?_
          refine r_icge (tgt := 60) hC dX8_placeOf_29 (by decide) (fun h29 => ?_) (fun h29 => ?_)
          · refine r_iload_n hC dX8_placeOf_60 rfl rfl ?_
            refine r_iret hC hQ rfl dX8_placeOf_61 (Nat.le_of_ble_eq_true rfl) (Nat.le_of_ble_eq_true rfl) ?_
            rw [e]
            exact EM.ok h1 (hMC.n23 _) rfl rfl rfl
          · exact absurd (Int32.le_refl _) h29
        | succ d ih =>
          intro p hp
          have hp8 : p < 8 := by omega
          have hcv := hMC.2.2.2.2.1.2 p hp8
          have hu := (unf_ok hok).1 p hp8
          refine r_iload hC dX8_placeOf_25 rfl ?_
          refine r_bipush (v := nI 8) hC dX8_placeOf_27 (by decide) ?_
          refine r_icge (tgt := 60) hC dX8_placeOf_29 (by decide) (fun h29 => ?_) (fun h29 => ?_)
          · exact absurd ((nI_leI (by omega) (by omega)).mp h29) (by omega)
          · skip
            refine r_iload_n hC dX8_placeOf_32 rfl rfl ?_
            refine r_ifeq (tgt := 60) hC dX8_placeOf_33 (by decide) (fun h33 => ?_) (fun h33 => ?_)
            · exact absurd h33 (by decide)
            · skip
              refine r_aload_n hC dX8_placeOf_36 rfl rfl ?_
              refine r_getR  hC fl_X8_43 dX8_placeOf_37 (h1.1.kd) (h1.1.r 13 rfl) ?_
              refine r_iload hC dX8_placeOf_40 rfl ?_
              refine r_iald hC dX8_placeOf_42 (h1.1.k 13 rfl) (rfl) (h1.1.lt 13 rfl (by show _ < 8; omega)) (h1.1.b 13 rfl) ((congrFun (h1.1.a 13 rfl) _).trans (hcv)) ?_
              refine r_iload_n hC dX8_placeOf_43 rfl rfl ?_
              refine r_icne (tgt := 52) hC dX8_placeOf_44 (by decide) (fun h44 => ?_) (fun h44 => ?_)
              · have hne : unf (aFd A) p ≠ c := fun z => h44 (by rw [z])
                refine r_iload_n hC dX8_placeOf_52 rfl rfl ?_
                refine r_istore_n hC dX8_placeOf_53 rfl (by decide) ?_
                refine r_iinc hC dX8_placeOf_54 rfl (ii1 _) ?_
                refine r_goto (tgt := 25) hC dX8_placeOf_57 (by decide) ?_
                have := ih (p + 1) (by omega)
                rw [show plF (aFd A) c (p + 1) = plF (aFd A) c p from by simp only [plF]; rw [if_neg hne]] at this
                exact this
              · have heq : unf (aFd A) p = c := (nI_eq (by omega) (by omega)).mp h44
                refine r_iload hC dX8_placeOf_47 rfl ?_
                refine r_goto (tgt := 53) hC dX8_placeOf_49 (by decide) ?_
                refine r_istore_n hC dX8_placeOf_53 rfl (by decide) ?_
                refine r_iinc hC dX8_placeOf_54 rfl (ii1 _) ?_
                refine r_goto (tgt := 25) hC dX8_placeOf_57 (by decide) ?_
                have := ih (p + 1) (by omega)
                rw [show plF (aFd A) c (p + 1) = p from by simp only [plF]; rw [if_pos heq]] at this
                exact this
      refine r_istore_n hC dX8_placeOf_21 rfl (by decide) ?_
      refine r_iconst (v := nI 0) hC dX8_placeOf_22 (by decide) ?_
      refine r_istore hC dX8_placeOf_23 (by decide) ?_
      exact loop 8 0 rfl
end MSet

