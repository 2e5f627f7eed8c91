/-! ===== the model's draw ===== -/
section MDraw
variable {l : Launch} {G : GG} {S S0 S' : PS} {tg tg' : TG} {md : Nat} {V : Nat → Nat} {N : Nat → Int32} {R : Nat → Nat → Int32} {A : AS}
set_option maxRecDepth 100000 in
set_option maxHeartbeats 2000000 in
theorem m_draw (hl : l.stackTraces = false) (hM : MM S tg md V N R) (hv : VU A) (hMC : MC N R A) (b a p m c : Int32) :
    MT l G S yX8_draw cX8_draw 8 (some .int) (rmA 4) [va_rf (some md), .int b, .int a, .int p, .int m, .int c] (EM S tg md V (oDraw A b a p m c)) (fun _ => False) := by
  have h4 := hv.1
  refine MT_of (by decide +kernel) hl rfl (Nat.le_of_ble_eq_true rfl) (fun Z hC hzl hnm hT hQ => ?_)
  change J G Z S 0 0 0 [some (va_rf (some md)), some (.int b), some (.int a), some (.int p), some (.int m), some (.int c), none, none] []
  have hzs : (zl Z).stackTraces = false := by rw [hzl]; exact hl
  have thr1 : oDraw A b a p m c = (1, 0, A) → J G Z S 0 0 32 [some (va_rf (some md)), some (.int b), some (.int a), some (.int p), some (.int m), some (.int c), none, none] [.int (nI 1), va_rf (some md)] := by
    intro e
    refine r_cV (as := [.int (nI 1)]) hC (m_goes hzs hM (nI 1)) cs_X8_goes q_1010 q_1012 q_52 (hM.kd) (by decide) rfl dX8_draw_32 rfl rfl ⟨Nat.le_of_ble_eq_true rfl, Nat.le_of_ble_eq_true rfl⟩ (Nat.le_of_ble_eq_true rfl) ⟨Nat.le_of_ble_eq_true rfl, Nat.le_of_ble_eq_true rfl⟩ (fun v32 S32 p32 => ?_) (fun _ x => x.elim)
    obtain ⟨rfl, h1⟩ := p32
    refine r_ifne (tgt := 40) hC dX8_draw_35 (by decide) (fun h35 => ?_) (fun h35 => ?_)
    · exact absurd rfl h35
    · refine r_iconst (v := nI 0) hC dX8_draw_38 (by decide) ?_
      refine r_iret hC hQ rfl dX8_draw_39 (Nat.le_of_ble_eq_true rfl) (Nat.le_of_ble_eq_true rfl) ?_
      exact EM.thr h1 hMC ⟨1, e, by decide, rfl⟩ ⟨_, rfl⟩
  refine r_aload_n hC dX8_draw_0 rfl rfl ?_
  refine r_aload_n hC dX8_draw_1 rfl rfl ?_
  refine r_iload_n hC dX8_draw_2 rfl rfl ?_
  refine r_cV (as := [.int b]) hC (m_isBook hzs hM b h4 hMC.1.1) cs_X8_isBook q_1018 q_1020 q_53 (hM.kd) (by decide) rfl dX8_draw_3 rfl rfl ⟨Nat.le_of_ble_eq_true rfl, Nat.le_of_ble_eq_true rfl⟩ (Nat.le_of_ble_eq_true rfl) ⟨Nat.le_of_ble_eq_true rfl, Nat.le_of_ble_eq_true rfl⟩ (fun v3 S3 p3 => ?_) (fun _ x => x.elim)
  obtain ⟨rfl, e3⟩ := p3
  rw [e3]
  cases hb : ixb b (aNb A) with
  | false =>
    refine r_ifne (tgt := 13) hC dX8_draw_6 (by decide) (fun h6 => ?_) (fun h6 => ?_)
    · exact absurd rfl h6
    · refine r_iconst (v := nI 1) hC dX8_draw_9 (by decide) ?_
      refine r_goto (tgt := 32) hC dX8_draw_10 (by decide) ?_
      exact thr1 (by unfold oDraw; rw [if_neg (by rw [hb]; decide)])
  | true =>
    obtain ⟨i, hi, rfl, hii⟩ := ixb_of (by omega) hb
    obtain ⟨h8, hV⟩ := hv.2.2.2.2.1 i hi
    obtain ⟨b1, b2⟩ := hMC.2.1.1 i hi
    refine r_ifne (tgt := 13) hC dX8_draw_6 (by decide) (fun h6 => ?_) (fun h6 => ?_)
    rotate_left
    · exact absurd h6 (by decide)
    · refine r_iload_n hC dX8_draw_13 rfl rfl ?_
      refine r_iconst (v := nI 0) hC dX8_draw_14 (by decide) ?_
      refine r_aload_n hC dX8_draw_15 rfl rfl ?_
      refine r_getR  hC fl_X8_7 dX8_draw_16 (hM.kd) (hM.r 1 rfl) ?_
      refine r_iload_n hC dX8_draw_19 rfl rfl ?_
      refine r_iald hC dX8_draw_20 (hM.k 1 rfl) (rfl) (hM.lt 1 rfl (by show _ < 4; omega)) (hM.b 1 rfl) ((congrFun (hM.a 1 rfl) _).trans (b1)) ?_
      refine r_cS (as := [.int a, .int (nI 0), .int (nI (aSz A i))]) hC (m_isIn hzs a (nI 0) (nI (aSz A i))) cs_X8_isIn q_1022 q_1023 dX8_draw_21 rfl rfl ⟨Nat.le_of_ble_eq_true rfl, Nat.le_of_ble_eq_true rfl⟩ (Nat.le_of_ble_eq_true rfl) ⟨Nat.le_of_ble_eq_true rfl, Nat.le_of_ble_eq_true rfl⟩ (fun v21 S21 p21 => ?_) (fun _ x => x.elim)
      obtain ⟨rfl, e21⟩ := p21
      rw [e21]
      cases ha : decide (nI 0 ≤ a ∧ a ≤ nI (aSz A i)) with
      | false =>
        refine r_ifeq (tgt := 31) hC dX8_draw_24 (by decide) (fun h24 => ?_) (fun h24 => ?_)
        · refine r_iconst (v := nI 1) hC dX8_draw_31 (by decide) ?_
          exact thr1 (by unfold oDraw; rw [if_pos hb, hii, if_neg (by unfold rgb; rw [ha]; decide)])
        · exact absurd rfl h24
      | true =>
        obtain ⟨a1, a2⟩ := of_decide_eq_true ha
        obtain ⟨k, hk, rfl⟩ := rgb_n (by omega) a1 a2
        have q3 : rgb (nI k) 0 (aSz A i) = true := ha
        have q4 : ii (nI k) = k := ii_n (by omega)
        refine r_ifeq (tgt := 31) hC dX8_draw_24 (by decide) (fun h24 => ?_) (fun h24 => ?_)
        · exact absurd h24 (by decide)
        · refine r_iconst (v := nI 0) hC dX8_draw_27 (by decide) ?_
          refine r_goto (tgt := 32) hC dX8_draw_28 (by decide) ?_
          refine r_cV (as := [.int (nI 0)]) hC (m_goes hzs hM (nI 0)) cs_X8_goes q_1010 q_1012 q_52 (hM.kd) (by decide) rfl dX8_draw_32 rfl rfl ⟨Nat.le_of_ble_eq_true rfl, Nat.le_of_ble_eq_true rfl⟩ (Nat.le_of_ble_eq_true rfl) ⟨Nat.le_of_ble_eq_true rfl, Nat.le_of_ble_eq_true rfl⟩ (fun v32 S32 p32 => ?_) (fun _ x => x.elim)
          obtain ⟨rfl, h1⟩ := p32
          have thr2 : ∀ o6, oDraw A (nI i) (nI k) p m c = (2, 0, A) → J G Z S32 0 0 81 [some (va_rf (some md)), some (.int (nI i)), some (.int (nI k)), some (.int p), some (.int m), some (.int c), o6, none] [.int (nI 0), va_rf (some md)] := by
            intro o6 e
            refine r_ifne (tgt := 88) hC dX8_draw_81 (by decide) (fun h81 => ?_) (fun h81 => ?_)
            · exact absurd rfl h81
            · refine r_iconst (v := nI 2) hC dX8_draw_84 (by decide) ?_
              refine r_goto (tgt := 104) hC dX8_draw_85 (by decide) ?_
              refine r_cV (as := [.int (nI 2)]) hC (m_goes hzs h1.1 (nI 2)) cs_X8_goes q_1010 q_1012 q_52 (h1.1.kd) (by decide) rfl dX8_draw_104 rfl rfl ⟨Nat.le_of_ble_eq_true rfl, Nat.le_of_ble_eq_true rfl⟩ (Nat.le_of_ble_eq_true rfl) ⟨Nat.le_of_ble_eq_true rfl, Nat.le_of_ble_eq_true rfl⟩ (fun v104 S104 p104 => ?_) (fun _ x => x.elim)
              obtain ⟨rfl, h2⟩ := p104
              have h3 := h1.tr h2
              rw [uN_uN] at h3
              refine r_ifne (tgt := 112) hC dX8_draw_107 (by decide) (fun h107 => ?_) (fun h107 => ?_)
              · exact absurd rfl h107
              · refine r_iconst (v := nI 0) hC dX8_draw_110 (by decide) ?_
                refine r_iret hC hQ rfl dX8_draw_111 (Nat.le_of_ble_eq_true rfl) (Nat.le_of_ble_eq_true rfl) ?_
                exact EM.thr h3 hMC ⟨2, e, by decide, rfl⟩ ⟨_, rfl⟩
          have bad : ¬ (rgb p 0 999 = true ∧ rgb m 0 5 = true ∧ rgb c 0 3 = true) → J G Z S32 0 0 75 [some (va_rf (some md)), some (.int (nI i)), some (.int (nI k)), some (.int p), some (.int m), some (.int c), none, none] [] := by
            intro hbad
            refine r_iconst (v := nI 0) hC dX8_draw_75 (by decide) ?_
            refine r_istore hC dX8_draw_76 (by decide) ?_
            refine r_aload_n hC dX8_draw_78 rfl rfl ?_
            refine r_iload hC dX8_draw_79 rfl ?_
            exact thr2 _ (by unfold oDraw; rw [if_pos hb, hii, if_pos q3, if_neg hbad])
          refine r_ifne (tgt := 40) hC dX8_draw_35 (by decide) (fun h35 => ?_) (fun h35 => ?_)
          rotate_left
          · exact absurd h35 (by decide)
          · refine r_iload_n hC dX8_draw_40 rfl rfl ?_
            refine r_iconst (v := nI 0) hC dX8_draw_41 (by decide) ?_
            refine r_sipush (v := nI 999) hC dX8_draw_42 (by decide) ?_
            refine r_cS (as := [.int p, .int (nI 0), .int (nI 999)]) hC (m_isIn hzs p (nI 0) (nI 999)) cs_X8_isIn q_1022 q_1023 dX8_draw_45 rfl rfl ⟨Nat.le_of_ble_eq_true rfl, Nat.le_of_ble_eq_true rfl⟩ (Nat.le_of_ble_eq_true rfl) ⟨Nat.le_of_ble_eq_true rfl, Nat.le_of_ble_eq_true rfl⟩ (fun v45 S45 p45 => ?_) (fun _ x => x.elim)
            obtain ⟨rfl, e45⟩ := p45
            rw [e45]
            cases hp : decide (nI 0 ≤ p ∧ p ≤ nI 999) with
            | false =>
              refine r_ifeq (tgt := 75) hC dX8_draw_48 (by decide) (fun h48 => ?_) (fun h48 => ?_)
              · exact bad (fun z => by have z1 := z.1; unfold rgb at z1; rw [hp] at z1; cases z1)
              · exact absurd rfl h48
            | true =>
              refine r_ifeq (tgt := 75) hC dX8_draw_48 (by decide) (fun h48 => ?_) (fun h48 => ?_)
              · exact absurd h48 (by decide)
              · refine r_iload hC dX8_draw_51 rfl ?_
                refine r_iconst (v := nI 0) hC dX8_draw_53 (by decide) ?_
                refine r_iconst (v := nI 5) hC dX8_draw_54 (by decide) ?_
                refine r_cS (as := [.int m, .int (nI 0), .int (nI 5)]) hC (m_isIn hzs m (nI 0) (nI 5)) cs_X8_isIn q_1022 q_1023 dX8_draw_55 rfl rfl ⟨Nat.le_of_ble_eq_true rfl, Nat.le_of_ble_eq_true rfl⟩ (Nat.le_of_ble_eq_true rfl) ⟨Nat.le_of_ble_eq_true rfl, Nat.le_of_ble_eq_true rfl⟩ (fun v55 S55 p55 => ?_) (fun _ x => x.elim)
                obtain ⟨rfl, e55⟩ := p55
                rw [e55]
                cases hm : decide (nI 0 ≤ m ∧ m ≤ nI 5) with
                | false =>
                  refine r_ifeq (tgt := 75) hC dX8_draw_58 (by decide) (fun h58 => ?_) (fun h58 => ?_)
                  · exact bad (fun z => by have z1 := z.2.1; unfold rgb at z1; rw [hm] at z1; cases z1)
                  · exact absurd rfl h58
                | true =>
                  refine r_ifeq (tgt := 75) hC dX8_draw_58 (by decide) (fun h58 => ?_) (fun h58 => ?_)
                  · exact absurd h58 (by decide)
                  · refine r_iload hC dX8_draw_61 rfl ?_
                    refine r_iconst (v := nI 0) hC dX8_draw_63 (by decide) ?_
                    refine r_iconst (v := nI 3) hC dX8_draw_64 (by decide) ?_
                    refine r_cS (as := [.int c, .int (nI 0), .int (nI 3)]) hC (m_isIn hzs c (nI 0) (nI 3)) cs_X8_isIn q_1022 q_1023 dX8_draw_65 rfl rfl ⟨Nat.le_of_ble_eq_true rfl, Nat.le_of_ble_eq_true rfl⟩ (Nat.le_of_ble_eq_true rfl) ⟨Nat.le_of_ble_eq_true rfl, Nat.le_of_ble_eq_true rfl⟩ (fun v65 S65 p65 => ?_) (fun _ x => x.elim)
                    obtain ⟨rfl, e65⟩ := p65
                    rw [e65]
                    cases hc : decide (nI 0 ≤ c ∧ c ≤ nI 3) with
                    | false =>
                      refine r_ifeq (tgt := 75) hC dX8_draw_68 (by decide) (fun h68 => ?_) (fun h68 => ?_)
                      · exact bad (fun z => by have z1 := z.2.2; unfold rgb at z1; rw [hc] at z1; cases z1)
                      · exact absurd rfl h68
                    | true =>
                      obtain ⟨p1, p2⟩ := of_decide_eq_true hp
                      obtain ⟨x, hx, rfl⟩ := rgb_n (by decide) p1 p2
                      obtain ⟨m1, m2⟩ := of_decide_eq_true hm
                      obtain ⟨y, hy, rfl⟩ := rgb_n (by decide) m1 m2
                      obtain ⟨c1, c2⟩ := of_decide_eq_true hc
                      obtain ⟨z, hz, rfl⟩ := rgb_n (by decide) c1 c2
                      have hall : rgb (nI x) 0 999 = true ∧ rgb (nI y) 0 5 = true ∧ rgb (nI z) 0 3 = true := ⟨hp, hm, hc⟩
                      refine r_ifeq (tgt := 75) hC dX8_draw_68 (by decide) (fun h68 => ?_) (fun h68 => ?_)
                      · exact absurd h68 (by decide)
                      · refine r_iconst (v := nI 1) hC dX8_draw_71 (by decide) ?_
                        refine r_goto (tgt := 76) hC dX8_draw_72 (by decide) ?_
                        refine r_istore hC dX8_draw_76 (by decide) ?_
                        refine r_aload_n hC dX8_draw_78 rfl rfl ?_
                        refine r_iload hC dX8_draw_79 rfl ?_
                        refine r_ifne (tgt := 88) hC dX8_draw_81 (by decide) (fun h81 => ?_) (fun h81 => ?_)
                        rotate_left
                        · exact absurd h81 (by decide)
                        · refine r_aload_n hC dX8_draw_88 rfl rfl ?_
                          refine r_getR  hC fl_X8_7 dX8_draw_89 (h1.1.kd) (h1.1.r 1 rfl) ?_
                          refine r_iload_n hC dX8_draw_92 rfl rfl ?_
                          refine r_iald hC dX8_draw_93 (h1.1.k 1 rfl) (rfl) (h1.1.lt 1 rfl (by show _ < 4; omega)) (h1.1.b 1 rfl) ((congrFun (h1.1.a 1 rfl) _).trans (b1)) ?_
                          refine r_bipush (v := nI 8) hC dX8_draw_94 (by decide) ?_
                          refine r_icne (tgt := 103) hC dX8_draw_96 (by decide) (fun h96 => ?_) (fun h96 => ?_)
                          rotate_left
                          · have hn8 : aSz A i = 8 := (nI_eq (by omega) (by decide)).mp h96
                            refine r_iconst (v := nI 3) hC dX8_draw_99 (by decide) ?_
                            refine r_goto (tgt := 104) hC dX8_draw_100 (by decide) ?_
                            refine r_cV (as := [.int (nI 3)]) hC (m_goes hzs h1.1 (nI 3)) cs_X8_goes q_1010 q_1012 q_52 (h1.1.kd) (by decide) rfl dX8_draw_104 rfl rfl ⟨Nat.le_of_ble_eq_true rfl, Nat.le_of_ble_eq_true rfl⟩ (Nat.le_of_ble_eq_true rfl) ⟨Nat.le_of_ble_eq_true rfl, Nat.le_of_ble_eq_true rfl⟩ (fun v104 S104 p104 => ?_) (fun _ x => x.elim)
                            obtain ⟨rfl, h2⟩ := p104
                            have h3 := h1.tr h2
                            rw [uN_uN] at h3
                            refine r_ifne (tgt := 112) hC dX8_draw_107 (by decide) (fun h107 => ?_) (fun h107 => ?_)
                            · exact absurd rfl h107
                            · refine r_iconst (v := nI 0) hC dX8_draw_110 (by decide) ?_
                              refine r_iret hC hQ rfl dX8_draw_111 (Nat.le_of_ble_eq_true rfl) (Nat.le_of_ble_eq_true rfl) ?_
                              exact EM.thr h3 hMC ⟨3, by unfold oDraw; rw [if_pos hb, hii, if_pos q3, if_pos hall, if_pos hn8], by decide, rfl⟩ ⟨_, rfl⟩
                          · have hn8 : aSz A i < 8 := by
                              have : aSz A i ≠ 8 := fun w => h96 (by rw [w])
                              omega
                            obtain ⟨n, hn⟩ : ∃ n, n = aSz A i := ⟨_, rfl⟩
                            rw [← hn] at b1 b2 hk hn8 hV
                            refine r_iconst (v := nI 0) hC dX8_draw_103 (by decide) ?_
                            refine r_cV (as := [.int (nI 0)]) hC (m_goes hzs h1.1 (nI 0)) cs_X8_goes q_1010 q_1012 q_52 (h1.1.kd) (by decide) rfl dX8_draw_104 rfl rfl ⟨Nat.le_of_ble_eq_true rfl, Nat.le_of_ble_eq_true rfl⟩ (Nat.le_of_ble_eq_true rfl) ⟨Nat.le_of_ble_eq_true rfl, Nat.le_of_ble_eq_true rfl⟩ (fun v104 S104 p104 => ?_) (fun _ x => x.elim)
                            obtain ⟨rfl, h2⟩ := p104
                            have h3 := h1.tr h2
                            rw [uN_uN] at h3
                            refine r_ifne (tgt := 112) hC dX8_draw_107 (by decide) (fun h107 => ?_) (fun h107 => ?_)
                            rotate_left
                            · exact absurd h107 (by decide)
                            · have loop : ∀ (e j : Nat) (S3 : PS), k + e = j → j ≤ n → MX S S3 tg md V (uN N 23 (nI 0)) (uR3 R (shI (R 2) (8 * i + n) (8 * i + j)) (shI (R 3) (8 * i + n) (8 * i + j)) (shI (R 4) (8 * i + n) (8 * i + j))) →
                                  J G Z S3 0 0 125 [some (va_rf (some md)), some (.int (nI i)), some (.int (nI k)), some (.int (nI x)), some (.int (nI y)), some (.int (nI z)), some (.int (nI 1)), some (.int (nI (8 * i + j)))] [] := by
                                intro e
                                induction e with
                                | zero =>
                                  intro j S3 hj hjn h4'
                                  have hj : j = k := by omega
                                  subst hj
                                  refine r_iload hC dX8_draw_125 rfl ?_
                                  refine r_bipush (v := nI 8) hC dX8_draw_127 (by decide) ?_
                                  refine r_iload_n hC dX8_draw_129 rfl rfl ?_
                                  refine r_imul hC dX8_draw_130 ?_
                                  rw [pk_mul]
                                  refine r_iload_n hC dX8_draw_131 rfl rfl ?_
                                  refine r_iadd hC dX8_draw_132 ?_
                                  rw [nI_add]
                                  refine r_icle (tgt := 190) hC dX8_draw_133 (by decide) (fun h133 => ?_) (fun h133 => ?_)
                                  · skip
                                    refine r_aload_n hC dX8_draw_190 rfl rfl ?_
                                    refine r_getR  hC fl_X8_13 dX8_draw_191 (h4'.1.kd) (h4'.1.r 2 rfl) ?_
                                    refine r_bipush (v := nI 8) hC dX8_draw_194 (by decide) ?_
                                    refine r_iload_n hC dX8_draw_196 rfl rfl ?_
                                    refine r_imul hC dX8_draw_197 ?_
                                    refine r_iload_n hC dX8_draw_198 rfl rfl ?_
                                    refine r_iadd hC dX8_draw_199 ?_
                                    refine r_iload_n hC dX8_draw_200 rfl rfl ?_
                                    refine r_iast hC dX8_draw_201 (h4'.1.k 2 rfl) (by rw [pk_mul, nI_add]) (h4'.1.lt 2 rfl (by show _ < 32; omega)) (h4'.1.b 2 rfl) ?_
                                    have h5 := h4'.su 2 rfl (8 * i + j) (nI x)
                                    refine r_aload_n hC dX8_draw_202 rfl rfl ?_
                                    refine r_getR  hC fl_X8_16 dX8_draw_203 (h5.1.kd) (h5.1.r 3 rfl) ?_
                                    refine r_bipush (v := nI 8) hC dX8_draw_206 (by decide) ?_
                                    refine r_iload_n hC dX8_draw_208 rfl rfl ?_
                                    refine r_imul hC dX8_draw_209 ?_
                                    refine r_iload_n hC dX8_draw_210 rfl rfl ?_
                                    refine r_iadd hC dX8_draw_211 ?_
                                    refine r_iload hC dX8_draw_212 rfl ?_
                                    refine r_iast hC dX8_draw_214 (h5.1.k 3 rfl) (by rw [pk_mul, nI_add]) (h5.1.lt 3 rfl (by show _ < 32; omega)) (h5.1.b 3 rfl) ?_
                                    have h6' := h5.su 3 rfl (8 * i + j) (nI y)
                                    refine r_aload_n hC dX8_draw_215 rfl rfl ?_
                                    refine r_getR  hC fl_X8_19 dX8_draw_216 (h6'.1.kd) (h6'.1.r 4 rfl) ?_
                                    refine r_bipush (v := nI 8) hC dX8_draw_219 (by decide) ?_
                                    refine r_iload_n hC dX8_draw_221 rfl rfl ?_
                                    refine r_imul hC dX8_draw_222 ?_
                                    refine r_iload_n hC dX8_draw_223 rfl rfl ?_
                                    refine r_iadd hC dX8_draw_224 ?_
                                    refine r_iload hC dX8_draw_225 rfl ?_
                                    refine r_iast hC dX8_draw_227 (h6'.1.k 4 rfl) (by rw [pk_mul, nI_add]) (h6'.1.lt 4 rfl (by show _ < 32; omega)) (h6'.1.b 4 rfl) ?_
                                    have h7 := h6'.su 4 rfl (8 * i + j) (nI z)
                                    refine r_aload_n hC dX8_draw_228 rfl rfl ?_
                                    refine r_getR  hC fl_X8_7 dX8_draw_229 (h7.1.kd) (h7.1.r 1 rfl) ?_
                                    refine r_iload_n hC dX8_draw_232 rfl rfl ?_
                                    refine r_dup2 hC dX8_draw_233 rfl rfl ?_
                                    refine r_iald hC dX8_draw_234 (h7.1.k 1 rfl) (rfl) (h7.1.lt 1 rfl (by show _ < 4; omega)) (h7.1.b 1 rfl) ((congrFun (h7.1.a 1 rfl) _).trans (b1)) ?_
                                    refine r_iconst (v := nI 1) hC dX8_draw_235 (by decide) ?_
                                    refine r_iadd hC dX8_draw_236 ?_
                                    rw [nI_add]
                                    refine r_iast hC dX8_draw_237 (h7.1.k 1 rfl) (rfl) (h7.1.lt 1 rfl (by show _ < 4; omega)) (h7.1.b 1 rfl) ?_
                                    have h8' := h7.su 1 rfl i (nI (n + 1))
                                    have hvn := hv.bk (i := i) (n := n + 1) (f1 := insF (aPs A i) n j (nI x)) (f2 := insF (aBt A i) n j (nI y)) (f3 := insF (aCv A i) n j (nI z)) (by omega) (VB_ins hV (by omega) hx hy hz)
                                    have sh : ∀ (r : Nat → Int32) (f : Nat → Int32) (w : Int32), (∀ k, k < n → r (8 * i + k) = f k) → ∀ k, k < n + 1 → upd (shI r (8 * i + n) (8 * i + j)) (8 * i + j) w (8 * i + k) = insF f n j w k := by
                                      intro r f w hrf k hk
                                      unfold insF
                                      by_cases hkj : k = j
                                      · rw [hkj, pk_us, pk_us]
                                      · rw [pk_un (by omega), pk_un hkj]
                                        unfold shI
                                        by_cases hq : j < k ∧ k ≤ n
                                        · rw [if_pos hq, if_pos ⟨by omega, by omega⟩]
                                          rw [show 8 * i + k - 1 = 8 * i + (k - 1) by omega]
                                          exact hrf (k - 1) (by omega)
                                        · rw [if_neg hq, if_neg (fun w => hq ⟨by omega, by omega⟩)]
                                          exact hrf k (by omega)
                                    have so : ∀ (r : Nat → Int32) (w : Int32) y, y < 8 * i ∨ 8 * i + 8 ≤ y → upd (shI r (8 * i + n) (8 * i + j)) (8 * i + j) w y = r y := by
                                      intro r w y hy
                                      rw [pk_un (by omega)]
                                      unfold shI
                                      rw [if_neg (fun w => by omega)]
                                    have hB : mBk (upd (R 1) i (nI (n + 1))) (upd (shI (R 2) (8 * i + n) (8 * i + j)) (8 * i + j) (nI x)) (upd (shI (R 3) (8 * i + n) (8 * i + j)) (8 * i + j) (nI y)) (upd (shI (R 4) (8 * i + n) (8 * i + j)) (8 * i + j) (nI z)) (bkA A i (insF (aPs A i) n j (nI x)) (insF (aBt A i) n j (nI y)) (insF (aCv A i) n j (nI z)) (n + 1)) := by
                                      refine mBk.bk hv hMC.2.1 hi pk_us (fun y hy => pk_un hy) (fun k hk => ⟨sh _ _ _ (fun k hk => (b2 k hk).1) k hk, sh _ _ _ (fun k hk => (b2 k hk).2.1) k hk, sh _ _ _ (fun k hk => (b2 k hk).2.2) k hk⟩) (fun y hy => ⟨so _ _ y hy, so _ _ y hy, so _ _ y hy⟩)
                                    have hMC' : MC (uN N 23 (nI 0)) (uR (uR (uR (uR (uR3 R (shI (R 2) (8 * i + n) (8 * i + j)) (shI (R 3) (8 * i + n) (8 * i + j)) (shI (R 4) (8 * i + n) (8 * i + j))) 2 (upd (shI (R 2) (8 * i + n) (8 * i + j)) (8 * i + j) (nI x))) 3 (upd (shI (R 3) (8 * i + n) (8 * i + j)) (8 * i + j) (nI y))) 4 (upd (shI (R 4) (8 * i + n) (8 * i + j)) (8 * i + j) (nI z))) 1 (upd (R 1) i (nI (n + 1)))) (bkA A i (insF (aPs A i) n j (nI x)) (insF (aBt A i) n j (nI y)) (insF (aCv A i) n j (nI z)) (n + 1)) := by
                                      obtain ⟨a1, a2, a3⟩ := hMC
                                      exact ⟨a1, hB, a3⟩
                                    refine r_aload_n hC dX8_draw_238 rfl rfl ?_
                                    refine r_iload_n hC dX8_draw_239 rfl rfl ?_
                                    refine r_cV (as := [.int (nI i)]) hC (m_flows hzs h8'.1 hvn hMC'.1.2.1 hMC'.2.1 hMC'.2.2.1 hMC'.2.2.2.1 (i := i) hi hMC'.1.2.2.2.2) cs_X8_flows q_1025 q_1027 q_54 (h8'.1.kd) (by decide) rfl dX8_draw_240 rfl rfl ⟨Nat.le_of_ble_eq_true rfl, Nat.le_of_ble_eq_true rfl⟩ (Nat.le_of_ble_eq_true rfl) ⟨Nat.le_of_ble_eq_true rfl, Nat.le_of_ble_eq_true rfl⟩ (fun v240 S240 p240 => ?_) (fun _ x => x.elim)
                                    obtain ⟨rfl, h10⟩ := p240
                                    refine r_iret hC hQ rfl dX8_draw_243 (Nat.le_of_ble_eq_true rfl) (Nat.le_of_ble_eq_true rfl) ?_
                                    have e : oDraw A (nI i) (nI j) (nI x) (nI y) (nI z) = flow (bkA A i (insF (aPs A i) n j (nI x)) (insF (aBt A i) n j (nI y)) (insF (aCv A i) n j (nI z)) (n + 1)) i := by
                                      unfold oDraw
                                      rw [if_pos hb, hii, if_pos q3, if_pos hall, if_neg (by omega), q4, ← hn]
                                    rw [e]
                                    exact EM.flow h8' hvn hMC' rfl h10
                                  · exact absurd (Int32.le_refl _) h133
                                | succ e ih =>
                                  intro j S3 hj hjn h4'
                                  obtain ⟨j', rfl⟩ : ∃ j', j = j' + 1 := ⟨j - 1, by omega⟩
                                  have hs1 : ∀ (r : Nat → Int32), upd (shI r (8 * i + n) (8 * i + (j' + 1))) (8 * i + (j' + 1)) (shI r (8 * i + n) (8 * i + (j' + 1)) (8 * i + j')) = shI r (8 * i + n) (8 * i + j') := fun r => shI_s r (show (8 * i + j') + 1 ≤ 8 * i + n by omega)
                                  refine r_iload hC dX8_draw_125 rfl ?_
                                  refine r_bipush (v := nI 8) hC dX8_draw_127 (by decide) ?_
                                  refine r_iload_n hC dX8_draw_129 rfl rfl ?_
                                  refine r_imul hC dX8_draw_130 ?_
                                  rw [pk_mul]
                                  refine r_iload_n hC dX8_draw_131 rfl rfl ?_
                                  refine r_iadd hC dX8_draw_132 ?_
                                  rw [nI_add]
                                  refine r_icle (tgt := 190) hC dX8_draw_133 (by decide) (fun h133 => ?_) (fun h133 => ?_)
                                  · exact absurd ((nI_leI (by omega) (by omega)).mp h133) (by omega)
                                  · refine r_aload_n hC dX8_draw_136 rfl rfl ?_
                                    refine r_getR  hC fl_X8_13 dX8_draw_137 (h4'.1.kd) (h4'.1.r 2 rfl) ?_
                                    refine r_iload hC dX8_draw_140 rfl ?_
                                    refine r_aload_n hC dX8_draw_142 rfl rfl ?_
                                    refine r_getR  hC fl_X8_13 dX8_draw_143 (h4'.1.kd) (h4'.1.r 2 rfl) ?_
                                    refine r_iload hC dX8_draw_146 rfl ?_
                                    refine r_iconst (v := nI 1) hC dX8_draw_148 (by decide) ?_
                                    refine r_isub hC dX8_draw_149 ?_
                                    refine r_iald hC dX8_draw_150 (h4'.1.k 2 rfl) (pk_sub (show 1 ≤ 8 * i + (j' + 1) by omega)) (h4'.1.lt 2 rfl (by show _ < 32; omega)) (h4'.1.b 2 rfl) (congrFun (h4'.1.a 2 rfl) _) ?_
                                    refine r_iast hC dX8_draw_151 (h4'.1.k 2 rfl) (rfl) (h4'.1.lt 2 rfl (by show _ < 32; omega)) (h4'.1.b 2 rfl) ?_
                                    have h5 := h4'.su 2 rfl (8 * i + (j' + 1)) (shI (R 2) (8 * i + n) (8 * i + (j' + 1)) (8 * i + j'))
                                    refine r_aload_n hC dX8_draw_152 rfl rfl ?_
                                    refine r_getR  hC fl_X8_16 dX8_draw_153 (h5.1.kd) (h5.1.r 3 rfl) ?_
                                    refine r_iload hC dX8_draw_156 rfl ?_
                                    refine r_aload_n hC dX8_draw_158 rfl rfl ?_
                                    refine r_getR  hC fl_X8_16 dX8_draw_159 (h5.1.kd) (h5.1.r 3 rfl) ?_
                                    refine r_iload hC dX8_draw_162 rfl ?_
                                    refine r_iconst (v := nI 1) hC dX8_draw_164 (by decide) ?_
                                    refine r_isub hC dX8_draw_165 ?_
                                    refine r_iald hC dX8_draw_166 (h5.1.k 3 rfl) (pk_sub (show 1 ≤ 8 * i + (j' + 1) by omega)) (h5.1.lt 3 rfl (by show _ < 32; omega)) (h5.1.b 3 rfl) (congrFun (h5.1.a 3 rfl) _) ?_
                                    refine r_iast hC dX8_draw_167 (h5.1.k 3 rfl) (rfl) (h5.1.lt 3 rfl (by show _ < 32; omega)) (h5.1.b 3 rfl) ?_
                                    have h6' := h5.su 3 rfl (8 * i + (j' + 1)) (shI (R 3) (8 * i + n) (8 * i + (j' + 1)) (8 * i + j'))
                                    refine r_aload_n hC dX8_draw_168 rfl rfl ?_
                                    refine r_getR  hC fl_X8_19 dX8_draw_169 (h6'.1.kd) (h6'.1.r 4 rfl) ?_
                                    refine r_iload hC dX8_draw_172 rfl ?_
                                    refine r_aload_n hC dX8_draw_174 rfl rfl ?_
                                    refine r_getR  hC fl_X8_19 dX8_draw_175 (h6'.1.kd) (h6'.1.r 4 rfl) ?_
                                    refine r_iload hC dX8_draw_178 rfl ?_
                                    refine r_iconst (v := nI 1) hC dX8_draw_180 (by decide) ?_
                                    refine r_isub hC dX8_draw_181 ?_
                                    refine r_iald hC dX8_draw_182 (h6'.1.k 4 rfl) (pk_sub (show 1 ≤ 8 * i + (j' + 1) by omega)) (h6'.1.lt 4 rfl (by show _ < 32; omega)) (h6'.1.b 4 rfl) (congrFun (h6'.1.a 4 rfl) _) ?_
                                    refine r_iast hC dX8_draw_183 (h6'.1.k 4 rfl) (rfl) (h6'.1.lt 4 rfl (by show _ < 32; omega)) (h6'.1.b 4 rfl) ?_
                                    have h7 := h6'.su 4 rfl (8 * i + (j' + 1)) (shI (R 4) (8 * i + n) (8 * i + (j' + 1)) (8 * i + j'))
                                    have h8' : MX S _ tg md V (uN N 23 (nI 0)) (uR (uR (uR (uR3 R (shI (R 2) (8 * i + n) (8 * i + (j' + 1))) (shI (R 3) (8 * i + n) (8 * i + (j' + 1))) (shI (R 4) (8 * i + n) (8 * i + (j' + 1)))) 2 (upd (shI (R 2) (8 * i + n) (8 * i + (j' + 1))) (8 * i + (j' + 1)) (shI (R 2) (8 * i + n) (8 * i + (j' + 1)) (8 * i + j')))) 3 (upd (shI (R 3) (8 * i + n) (8 * i + (j' + 1))) (8 * i + (j' + 1)) (shI (R 3) (8 * i + n) (8 * i + (j' + 1)) (8 * i + j')))) 4 (upd (shI (R 4) (8 * i + n) (8 * i + (j' + 1))) (8 * i + (j' + 1)) (shI (R 4) (8 * i + n) (8 * i + (j' + 1)) (8 * i + j')))) := h7
                                    rw [uR3_3, hs1, hs1, hs1] at h8'
                                    refine r_iinc hC dX8_draw_184 rfl (iim1 _) ?_
                                    refine r_goto (tgt := 125) hC dX8_draw_187 (by decide) ?_
                                    exact ih j' _ (by omega) (by omega) h8'
                              refine r_bipush (v := nI 8) hC dX8_draw_112 (by decide) ?_
                              refine r_iload_n hC dX8_draw_114 rfl rfl ?_
                              refine r_imul hC dX8_draw_115 ?_
                              rw [pk_mul]
                              refine r_aload_n hC dX8_draw_116 rfl rfl ?_
                              refine r_getR  hC fl_X8_7 dX8_draw_117 (h3.1.kd) (h3.1.r 1 rfl) ?_
                              refine r_iload_n hC dX8_draw_120 rfl rfl ?_
                              refine r_iald hC dX8_draw_121 (h3.1.k 1 rfl) (rfl) (h3.1.lt 1 rfl (by show _ < 4; omega)) (h3.1.b 1 rfl) ((congrFun (h3.1.a 1 rfl) _).trans (b1)) ?_
                              refine r_iadd hC dX8_draw_122 ?_
                              rw [nI_add]
                              refine r_istore hC dX8_draw_123 (by decide) ?_
                              refine loop (n - k) n S104 (by omega) (Nat.le_refl _) ?_
                              rw [shI_0, shI_0, shI_0, uR3_id]
                              exact h3
end MDraw

