/-! ===== the model's order ===== -/
def fl1 (r : Nat → Int32) (a n : Nat) : Nat → Int32 := fun x => if a ≤ x ∧ x < a + n then -1 else r x
theorem fl1_0 (r : Nat → Int32) (a : Nat) : fl1 r a 0 = r := by
  funext x
  exact if_neg (fun z => by omega)
theorem fl1_s (r : Nat → Int32) (a n : Nat) : upd (fl1 r a n) (a + n) (-1) = fl1 r a (n + 1) := by
  funext x
  by_cases h : x = a + n
  · rw [h, pk_us]
    exact (if_pos ⟨by omega, by omega⟩).symm
  · rw [pk_un h]
    unfold fl1
    by_cases hz : a ≤ x ∧ x < a + n
    · rw [if_pos hz, if_pos ⟨by omega, by omega⟩]
    · rw [if_neg hz, if_neg (fun w => hz ⟨by omega, by omega⟩)]
theorem fl1_t {r : Nat → Int32} {a n x : Nat} (h1 : a ≤ x) (h2 : x < a + n) : fl1 r a n x = -1 := if_pos ⟨h1, h2⟩
theorem fl1_f {r : Nat → Int32} {a n x : Nat} (h : x < a) : fl1 r a n x = r x := if_neg (fun z => by omega)
def uO (R : Nat → Nat → Int32) (a b c : Nat → Int32) : Nat → Nat → Int32 := uR (uR (uR R 8 a) 9 b) 11 c
theorem uO_8 (R : Nat → Nat → Int32) (a b c x : Nat → Int32) : uR (uO R a b c) 8 x = uO R x b c := by
  funext k
  by_cases h : k = 8
  · subst h; rfl
  · by_cases h1 : k = 11
    · subst h1; rfl
    · by_cases h2 : k = 9
      · subst h2; rfl
      · simp only [uO, uR, if_neg h, if_neg h1, if_neg h2]
theorem uO_9 (R : Nat → Nat → Int32) (a b c x y : Nat → Int32) : uR (uR (uO R a b c) 9 x) 11 y = uO R a x y := by
  funext k
  by_cases h : k = 8
  · subst h; rfl
  · by_cases h1 : k = 11
    · subst h1; rfl
    · by_cases h2 : k = 9
      · subst h2; rfl
      · simp only [uO, uR, if_neg h, if_neg h1, if_neg h2]
theorem uO_id (R : Nat → Nat → Int32) : uO R (R 8) (R 9) (R 11) = R := by
  funext k
  by_cases h : k = 8
  · subst h; rfl
  · by_cases h1 : k = 11
    · subst h1; rfl
    · by_cases h2 : k = 9
      · subst h2; rfl
      · simp only [uO, uR, if_neg h, if_neg h1, if_neg h2]
theorem MC.nwo {N : Nat → Int32} {R R' : Nat → Nat → Int32} {A : AS} {b n : Nat} (hv : VU A) (h : MC N R A) (h5 : aNo A < 5)
    (e6 : R' 6 = upd (R 6) (aNo A) (nI b)) (e7 : R' 7 = upd (R 7) (aNo A) (nI n)) (e8 : R' 8 = fl1 (R 8) (3 * aNo A) 3) (e9 : R' 9 = fl1 (R 9) (LX (aNo A) 0 0) 129) (e11 : R' 11 = fl1 (R 11) (LX (aNo A) 0 0) 129)
    (eo : ∀ k, k ≠ 6 → k ≠ 7 → k ≠ 8 → k ≠ 9 → k ≠ 11 → R' k = R k) : MC (uN N 5 (nI (aNo A + 1))) R' (newO A b n) := by
  obtain ⟨⟨n1, n2, n3, n4, n5⟩, hB, hO, hL, hf, hs, hd⟩ := h
  have er : ∀ r, r ≠ 0 → r ≠ 2 → r ≠ 3 → r ≠ 4 → r ≠ 5 → (newO A b n).1 r = A.1 r := fun r h0 h2 h3 h4 h5 => newO_r h0 h2 h3 h4 h5
  have x1 := er 1 (by decide) (by decide) (by decide) (by decide) (by decide)
  have x6 := er 6 (by decide) (by decide) (by decide) (by decide) (by decide)
  have x7 := er 7 (by decide) (by decide) (by decide) (by decide) (by decide)
  have x8 := er 8 (by decide) (by decide) (by decide) (by decide) (by decide)
  have x9 := er 9 (by decide) (by decide) (by decide) (by decide) (by decide)
  have x10 := er 10 (by decide) (by decide) (by decide) (by decide) (by decide)
  have x11 := er 11 (by decide) (by decide) (by decide) (by decide) (by decide)
  refine ⟨⟨n1, uN_s _ _ _, n3, n4, n5⟩, ?_, fun o ho => ?_, fun o ho c hc f hf43 => ?_, ?_, ?_, ?_⟩
  · rw [eo 1 (by decide) (by decide) (by decide) (by decide) (by decide), eo 2 (by decide) (by decide) (by decide) (by decide) (by decide), eo 3 (by decide) (by decide) (by decide) (by decide) (by decide), eo 4 (by decide) (by decide) (by decide) (by decide) (by decide)]
    unfold mBk
    simp only [aSz, x1]
    exact hB
  · have ho : o < aNo A + 1 := ho
    rw [e6, e7, e8]
    by_cases hz : o = aNo A
    · subst hz
      rw [pk_us, pk_us]
      refine ⟨?_, ?_, fun c hc => ?_⟩
      · show nI b = nI (if aNo A = aNo A ∧ _ then _ else _)
        rw [if_pos ⟨rfl, Or.inl rfl⟩]
        rfl
      · show nI n = nI (if aNo A = aNo A ∧ _ then _ else _)
        rw [if_pos ⟨rfl, Or.inr (Or.inl rfl)⟩]
        rfl
      · rw [fl1_t (by omega) (by omega)]
        have : aBd (newO A b n) (aNo A) c = 0 := by
          show (if aNo A = aNo A ∧ _ then _ else _) = 0
          rw [if_pos ⟨rfl, Or.inr (Or.inr (Or.inl rfl))⟩]
          rfl
        rw [if_pos this]
    · have ho' : o < aNo A := by omega
      rw [pk_un hz, pk_un hz]
      have q2 : aOb (newO A b n) o = aOb A o := by unfold aOb; rw [newO_o hz 2 (by decide)]
      have q3 : aNc (newO A b n) o = aNc A o := by unfold aNc; rw [newO_o hz 3 (by decide)]
      rw [q2, q3]
      refine ⟨(hO o ho').1, (hO o ho').2.1, fun c hc => ?_⟩
      have q4 : aBd (newO A b n) o c = aBd A o c := by unfold aBd; rw [newO_o hz 4 (by decide)]
      rw [q4, fl1_f (by omega)]
      exact (hO o ho').2.2 c hc
  · have ho : o < aNo A + 1 := ho
    rw [e9, eo 10 (by decide) (by decide) (by decide) (by decide) (by decide), e11]
    by_cases hz : o = aNo A
    · subst hz
      have q5 : aHl (newO A b n) (aNo A) c f = 0 := by
        show (if aNo A = aNo A ∧ _ then _ else _) = 0
        rw [if_pos ⟨rfl, Or.inr (Or.inr (Or.inr rfl))⟩]
        rfl
      rw [q5, fl1_t (by unfold LX; omega) (by unfold LX; omega), fl1_t (by unfold LX; omega) (by unfold LX; omega)]
      exact ⟨rfl, rfl, fun z => absurd z (by decide)⟩
    · have ho' : o < aNo A := by omega
      have q5 : aHl (newO A b n) o c f = aHl A o c f := by unfold aHl; rw [newO_o hz 5 (by decide)]
      have q6 : aLs (newO A b n) o c f = aLs A o c f := by unfold aLs; rw [x6]
      have q9 : ∀ j, aTr (newO A b n) j = aTr A j := fun j => by unfold aTr; rw [x9]
      rw [fl1_f (by unfold LX; omega), fl1_f (by unfold LX; omega), q5, q6, q9]
      exact hL o ho' c hc f hf43
  · rw [eo 12 (by decide) (by decide) (by decide) (by decide) (by decide), eo 13 (by decide) (by decide) (by decide) (by decide) (by decide)]
    have q7 : (fun k => aFd (newO A b n) k) = aFd A := by unfold aFd; rw [x7]
    have q7' : aFd (newO A b n) = aFd A := q7
    unfold mFo
    rw [q7']
    exact hf
  · rw [eo 15 (by decide) (by decide) (by decide) (by decide) (by decide), eo 16 (by decide) (by decide) (by decide) (by decide) (by decide)]
    unfold mSh
    simp only [aWt, aLi, x8, x11]
    exact hs
  · rw [eo 17 (by decide) (by decide) (by decide) (by decide) (by decide)]
    unfold mDu
    simp only [aDl, x10]
    exact hd
section MOrder
variable {l : Launch} {G : GG} {S S0 S' : PS} {tg tg' : TG} {md : Nat} {V : Nat → Nat} {N : Nat → Int32} {R : Nat → Nat → Int32} {A : AS}
set_option maxRecDepth 100000 in
set_option maxHeartbeats 2000000 in
theorem m_order (hl : l.stackTraces = false) (hM : MM S tg md V N R) (hv : VU A) (hMC : MC N R A) (x y : Int32) :
    MT l G S yX8_order cX8_order 5 (some .int) (rmA 3) [va_rf (some md), .int x, .int y] (EM S tg md V (oOrder A x y)) (fun _ => False) := by
  have h5 := hv.2.1
  refine MT_of (by decide +kernel) hl rfl (Nat.le_of_ble_eq_true rfl) (fun Z hC hzl hnm hT hQ => ?_)
  change J G Z S 0 0 0 [some (va_rf (some md)), some (.int x), some (.int y), none, none] []
  have hzs : (zl Z).stackTraces = false := by rw [hzl]; exact hl
  have thr : ∀ k, k ≠ 0 → k < 10 → oOrder A x y = (k, 0, A) → J G Z S 0 0 39 [some (va_rf (some md)), some (.int x), some (.int y), none, none] [.int (nI k), va_rf (some md)] := by
    intro k hk0 hk e
    have hd : decide (nI k = 0) = false := decide_eq_false (nI_ne0 (by omega) (by omega))
    refine r_cV (as := [.int (nI k)]) hC (m_goes hzs hM (nI k)) cs_X8_goes q_1010 q_1012 q_52 (hM.kd) (by decide) rfl dX8_order_39 rfl rfl ⟨Nat.le_of_ble_eq_true rfl, Nat.le_of_ble_eq_true rfl⟩ (Nat.le_of_ble_eq_true rfl) ⟨Nat.le_of_ble_eq_true rfl, Nat.le_of_ble_eq_true rfl⟩ (fun v39 S39 p39 => ?_) (fun _ x => x.elim)
    obtain ⟨rfl, h1⟩ := p39
    rw [hd]
    refine r_ifne (tgt := 47) hC dX8_order_42 (by decide) (fun h42 => ?_) (fun h42 => ?_)
    · exact absurd rfl h42
    · refine r_iconst (v := nI 0) hC dX8_order_45 (by decide) ?_
      refine r_iret hC hQ rfl dX8_order_46 (Nat.le_of_ble_eq_true rfl) (Nat.le_of_ble_eq_true rfl) ?_
      exact EM.thr h1 hMC ⟨k, e, hk0, rfl⟩ ⟨_, rfl⟩
  refine r_aload_n hC dX8_order_0 rfl rfl ?_
  refine r_aload_n hC dX8_order_1 rfl rfl ?_
  refine r_iload_n hC dX8_order_2 rfl rfl ?_
  refine r_cV (as := [.int x]) hC (m_isBook hzs hM x hv.1 hMC.1.1) cs_X8_isBook q_1018 q_1020 q_53 (hM.kd) (by decide) rfl dX8_order_3 rfl rfl ⟨Nat.le_of_ble_eq_true rfl, Nat.le_of_ble_eq_true rfl⟩ (Nat.le_of_ble_eq_true rfl) ⟨Nat.le_of_ble_eq_true rfl, Nat.le_of_ble_eq_true rfl⟩ (fun v3 S3 p3 => ?_) (fun _ x => x.elim)
  obtain ⟨rfl, e3⟩ := p3
  rw [e3]
  cases hx : ixb x (aNb A) with
  | false =>
    refine r_ifne (tgt := 13) hC dX8_order_6 (by decide) (fun h6 => ?_) (fun h6 => ?_)
    · exact absurd rfl h6
    · refine r_iconst (v := nI 1) hC dX8_order_9 (by decide) ?_
      refine r_goto (tgt := 39) hC dX8_order_10 (by decide) ?_
      exact thr 1 (by decide) (by decide) (by unfold oOrder; rw [if_neg (by rw [hx]; decide)])
  | true =>
    obtain ⟨b, hb, rfl, hbb⟩ := ixb_of (by have := hv.1; omega) hx
    refine r_ifne (tgt := 13) hC dX8_order_6 (by decide) (fun h6 => ?_) (fun h6 => ?_)
    rotate_left
    · exact absurd h6 (by decide)
    · refine r_iload_n hC dX8_order_13 rfl rfl ?_
      refine r_iconst (v := nI 1) hC dX8_order_14 (by decide) ?_
      refine r_iconst (v := nI 3) hC dX8_order_15 (by decide) ?_
      refine r_cS (as := [.int y, .int (nI 1), .int (nI 3)]) hC (m_isIn hzs y (nI 1) (nI 3)) cs_X8_isIn q_1022 q_1023 dX8_order_16 rfl rfl ⟨Nat.le_of_ble_eq_true rfl, Nat.le_of_ble_eq_true rfl⟩ (Nat.le_of_ble_eq_true rfl) ⟨Nat.le_of_ble_eq_true rfl, Nat.le_of_ble_eq_true rfl⟩ (fun v16 S16 p16 => ?_) (fun _ x => x.elim)
      obtain ⟨rfl, e16⟩ := p16
      rw [e16]
      change J G Z _ _ _ _ _ [.int (bI (rgb y 1 3)), _]
      cases hy : rgb y 1 3 with
      | false =>
        refine r_ifne (tgt := 26) hC dX8_order_19 (by decide) (fun h19 => ?_) (fun h19 => ?_)
        · exact absurd rfl h19
        · refine r_iconst (v := nI 2) hC dX8_order_22 (by decide) ?_
          refine r_goto (tgt := 39) hC dX8_order_23 (by decide) ?_
          exact thr 2 (by decide) (by decide) (by unfold oOrder; rw [if_pos hx, if_neg (by rw [hy]; decide)])
      | true =>
        obtain ⟨r1, r2⟩ := of_decide_eq_true hy
        obtain ⟨n, hn3, rfl⟩ := rgb_n (by decide) (Int32.le_trans (by decide) r1) r2
        refine r_ifne (tgt := 26) hC dX8_order_19 (by decide) (fun h19 => ?_) (fun h19 => ?_)
        rotate_left
        · exact absurd h19 (by decide)
        · skip
          refine r_aload_n hC dX8_order_26 rfl rfl ?_
          refine r_getI hC fl_X8_79 rfl dX8_order_27 (hM.kd) ((hM.n 5 rfl).trans hMC.1.2.1) ?_
          refine r_iconst (v := nI 5) hC dX8_order_30 (by decide) ?_
          refine r_icne (tgt := 38) hC dX8_order_31 (by decide) (fun h31 => ?_) (fun h31 => ?_)
          rotate_left
          · have hn5 : aNo A = 5 := (nI_eq (by omega) (by decide)).mp h31
            refine r_iconst (v := nI 3) hC dX8_order_34 (by decide) ?_
            refine r_goto (tgt := 39) hC dX8_order_35 (by decide) ?_
            exact thr 3 (by decide) (by decide) (by unfold oOrder; rw [if_pos hx, if_pos hy, if_pos hn5])
          · have hn5 : aNo A ≠ 5 := fun z => h31 (by rw [z])
            have hlt : aNo A < 5 := by omega
            have e : oOrder A (nI b) (nI n) = (0, nI (aNo A), newO A b n) := by unfold oOrder; rw [if_pos hx, if_pos hy, if_neg hn5, hbb, ii_n (by omega)]
            refine r_iconst (v := nI 0) hC dX8_order_38 (by decide) ?_
            refine r_cV (as := [.int (nI 0)]) hC (m_goes hzs hM (nI 0)) cs_X8_goes q_1010 q_1012 q_52 (hM.kd) (by decide) rfl dX8_order_39 rfl rfl ⟨Nat.le_of_ble_eq_true rfl, Nat.le_of_ble_eq_true rfl⟩ (Nat.le_of_ble_eq_true rfl) ⟨Nat.le_of_ble_eq_true rfl, Nat.le_of_ble_eq_true rfl⟩ (fun v39 S39 p39 => ?_) (fun _ x => x.elim)
            obtain ⟨rfl, h1⟩ := p39
            have g5 : ∀ {S1 : PS} {R1 : Nat → Nat → Int32}, MX S S1 tg md V (uN N 23 (nI 0)) R1 → pI S1 261 md = nI (aNo A) := fun h => (h.1.n 5 rfl).trans hMC.1.2.1
            refine r_ifne (tgt := 47) hC dX8_order_42 (by decide) (fun h42 => ?_) (fun h42 => ?_)
            rotate_left
            · exact absurd h42 (by decide)
            · skip
              refine r_aload_n hC dX8_order_47 rfl rfl ?_
              refine r_getR  hC fl_X8_22 dX8_order_48 (h1.1.kd) (h1.1.r 6 rfl) ?_
              refine r_aload_n hC dX8_order_51 rfl rfl ?_
              refine r_getI hC fl_X8_79 rfl dX8_order_52 (h1.1.kd) (g5 h1) ?_
              refine r_iload_n hC dX8_order_55 rfl rfl ?_
              refine r_iast hC dX8_order_56 (h1.1.k 6 rfl) (rfl) (h1.1.lt 6 rfl (by show _ < 5; omega)) (h1.1.b 6 rfl) ?_
              have h2 := h1.su 6 rfl (aNo A) (nI b)
              refine r_aload_n hC dX8_order_57 rfl rfl ?_
              refine r_getR  hC fl_X8_25 dX8_order_58 (h2.1.kd) (h2.1.r 7 rfl) ?_
              refine r_aload_n hC dX8_order_61 rfl rfl ?_
              refine r_getI hC fl_X8_79 rfl dX8_order_62 (h2.1.kd) (g5 h2) ?_
              refine r_iload_n hC dX8_order_65 rfl rfl ?_
              refine r_iast hC dX8_order_66 (h2.1.k 7 rfl) (rfl) (h2.1.lt 7 rfl (by show _ < 5; omega)) (h2.1.b 7 rfl) ?_
              have h3 := h2.su 7 rfl (aNo A) (nI n)
              obtain ⟨R1, eR1⟩ : ∃ z, z = uR (uR R 6 (upd (R 6) (aNo A) (nI b))) 7 (upd ((uR R 6 (upd (R 6) (aNo A) (nI b))) 7) (aNo A) (nI n)) := ⟨_, rfl⟩
              rw [← eR1] at h3
              obtain ⟨S3', eS3⟩ : ∃ z, z = sA (sA S39 (V 6) (upd (pA S39 (V 6)) (aNo A) (nI b))) (V 7) (upd (pA (sA S39 (V 6) (upd (pA S39 (V 6)) (aNo A) (nI b))) (V 7)) (aNo A) (nI n)) := ⟨_, rfl⟩
              rw [← eS3] at h3 ⊢
              have loop : ∀ (d c : Nat) (S1 : PS) (o4 : Option Value), c + d = 3 → MX S S1 tg md V (uN N 23 (nI 0)) (uO R1 (fl1 (R1 8) (3 * aNo A) c) (fl1 (R1 9) (LX (aNo A) 0 0) (43 * c)) (fl1 (R1 11) (LX (aNo A) 0 0) (43 * c))) →
                  J G Z S1 0 0 69 [some (va_rf (some md)), some (.int (nI b)), some (.int (nI n)), some (.int (nI c)), o4] [] := by
                intro d
                induction d with
                | zero =>
                  intro c S1 o4 hc h4
                  have hc : c = 3 := by omega
                  subst hc
                  refine r_iload_n hC dX8_order_69 rfl rfl ?_
                  refine r_iconst (v := nI 3) hC dX8_order_70 (by decide) ?_
                  refine r_icge (tgt := 142) hC dX8_order_71 (by decide) (fun h71 => ?_) (fun h71 => ?_)
                  · refine r_aload_n hC dX8_order_142 rfl rfl ?_
                    refine r_dup hC dX8_order_143 rfl ?_
                    refine r_getI hC fl_X8_79 rfl dX8_order_144 (h4.1.kd) (g5 h4) ?_
                    refine r_iconst (v := nI 1) hC dX8_order_147 (by decide) ?_
                    refine r_iadd hC dX8_order_148 ?_
                    rw [nI_add]
                    refine r_putI hC fl_X8_79 rfl (by decide) dX8_order_149 (h4.1.kd) (fun h => absurd h (by decide)) ?_
                    have h5' := h4.sn 5 rfl (nI (aNo A + 1))
                    refine r_aload_n hC dX8_order_152 rfl rfl ?_
                    refine r_getI hC fl_X8_79 rfl dX8_order_153 (h5'.1.kd) (h5'.1.n 5 rfl) ?_
                    refine r_iconst (v := nI 1) hC dX8_order_156 (by decide) ?_
                    refine r_isub hC dX8_order_157 ?_
                    rw [show ∀ w : Int32, w = nI (aNo A + 1) → w - nI 1 = nI (aNo A) from fun w hw => by rw [hw, pk_sub (by omega), Nat.add_sub_cancel]]
                    refine r_iret hC hQ rfl dX8_order_158 (Nat.le_of_ble_eq_true rfl) (Nat.le_of_ble_eq_true rfl) ?_
                    · rw [e]
                      subst eR1
                      exact EM.ok h5' ((hMC.n23 _).nwo hv hlt rfl rfl rfl rfl rfl (fun k k6 k7 k8 k9 k11 => by simp only [uO, uR, if_neg k6, if_neg k7, if_neg k8, if_neg k9, if_neg k11])) rfl rfl rfl
                    · exact uN_s _ _ _
                  · exact absurd (Int32.le_refl _) h71
                | succ d ih =>
                  intro c S1 o4 hc h4
                  have hc3 : c < 3 := by omega
                  have inner : ∀ (d f : Nat) (S2 : PS), f + d = 43 → MX S S2 tg md V (uN N 23 (nI 0)) (uO R1 (fl1 (R1 8) (3 * aNo A) (c + 1)) (fl1 (R1 9) (LX (aNo A) 0 0) (43 * c + f)) (fl1 (R1 11) (LX (aNo A) 0 0) (43 * c + f))) →
                      J G Z S2 0 0 91 [some (va_rf (some md)), some (.int (nI b)), some (.int (nI n)), some (.int (nI c)), some (.int (nI f))] [] := by
                    intro d
                    induction d with
                    | zero =>
                      intro f S2 hf h6
                      have hf : f = 43 := by omega
                      subst hf
                      refine r_iload hC dX8_order_91 rfl ?_
                      refine r_bipush (v := nI 43) hC dX8_order_93 (by decide) ?_
                      refine r_icge (tgt := 136) hC dX8_order_95 (by decide) (fun h95 => ?_) (fun h95 => ?_)
                      · refine r_iinc hC dX8_order_136 rfl (ii1 _) ?_
                        refine r_goto (tgt := 69) hC dX8_order_139 (by decide) ?_
                        exact ih (c + 1) _ _ (by omega) h6
                      · exact absurd (Int32.le_refl _) h95
                    | succ d ihf =>
                      intro f S2 hf h6
                      have hf43 : f < 43 := by omega
                      have hlx := LX_lt (o := aNo A) (c := c) (f := f) (by omega) hc3 hf43
                      have hlx2 : LX (aNo A) c f = LX (aNo A) 0 0 + (43 * c + f) := by unfold LX; omega
                      refine r_iload hC dX8_order_91 rfl ?_
                      refine r_bipush (v := nI 43) hC dX8_order_93 (by decide) ?_
                      refine r_icge (tgt := 136) hC dX8_order_95 (by decide) (fun h95 => ?_) (fun h95 => ?_)
                      · exact absurd ((nI_leI (by omega) (by omega)).mp h95) (by omega)
                      · refine r_aload_n hC dX8_order_98 rfl rfl ?_
                        refine r_getR  hC fl_X8_31 dX8_order_99 (h6.1.kd) (h6.1.r 9 rfl) ?_
                        refine r_aload_n hC dX8_order_102 rfl rfl ?_
                        refine r_getI hC fl_X8_79 rfl dX8_order_103 (h6.1.kd) (g5 h6) ?_
                        refine r_iload_n hC dX8_order_106 rfl rfl ?_
                        refine r_iload hC dX8_order_107 rfl ?_
                        refine r_cS (as := [.int (nI (aNo A)), .int (nI c), .int (nI f)]) hC (m_leafAt hzs (aNo A) c f) cs_X8_leafAt q_1072 q_1073 dX8_order_109 rfl rfl ⟨Nat.le_of_ble_eq_true rfl, Nat.le_of_ble_eq_true rfl⟩ (Nat.le_of_ble_eq_true rfl) ⟨Nat.le_of_ble_eq_true rfl, Nat.le_of_ble_eq_true rfl⟩ (fun v109 S109 p109 => ?_) (fun _ x => x.elim)
                        obtain ⟨rfl, e109⟩ := p109
                        rw [e109]
                        refine r_iconst (v := (-1)) hC dX8_order_112 (by decide) ?_
                        refine r_iast hC dX8_order_113 (h6.1.k 9 rfl) (rfl) (h6.1.lt 9 rfl (by show LX (aNo A) c f < 645; exact hlx)) (h6.1.b 9 rfl) ?_
                        have h7 := h6.su 9 rfl (LX (aNo A) c f) (-1)
                        refine r_aload_n hC dX8_order_114 rfl rfl ?_
                        refine r_getR  hC fl_X8_37 dX8_order_115 (h7.1.kd) (h7.1.r 11 rfl) ?_
                        refine r_aload_n hC dX8_order_118 rfl rfl ?_
                        refine r_getI hC fl_X8_79 rfl dX8_order_119 (h7.1.kd) (g5 h7) ?_
                        refine r_iload_n hC dX8_order_122 rfl rfl ?_
                        refine r_iload hC dX8_order_123 rfl ?_
                        refine r_cS (as := [.int (nI (aNo A)), .int (nI c), .int (nI f)]) hC (m_leafAt hzs (aNo A) c f) cs_X8_leafAt q_1072 q_1073 dX8_order_125 rfl rfl ⟨Nat.le_of_ble_eq_true rfl, Nat.le_of_ble_eq_true rfl⟩ (Nat.le_of_ble_eq_true rfl) ⟨Nat.le_of_ble_eq_true rfl, Nat.le_of_ble_eq_true rfl⟩ (fun v125 S125 p125 => ?_) (fun _ x => x.elim)
                        obtain ⟨rfl, e125⟩ := p125
                        rw [e125]
                        refine r_iconst (v := (-1)) hC dX8_order_128 (by decide) ?_
                        refine r_iast hC dX8_order_129 (h7.1.k 11 rfl) (rfl) (h7.1.lt 11 rfl (by show LX (aNo A) c f < 645; exact hlx)) (h7.1.b 11 rfl) ?_
                        have h8 := h7.su 11 rfl (LX (aNo A) c f) (-1)
                        rw [uO_9] at h8
                        refine r_iinc hC dX8_order_130 rfl (ii1 _) ?_
                        refine r_goto (tgt := 91) hC dX8_order_133 (by decide) ?_
                        refine ihf (f + 1) _ (by omega) ?_
                        rw [show 43 * c + (f + 1) = 43 * c + f + 1 from rfl, ← fl1_s (R1 9), ← fl1_s (R1 11), ← hlx2]
                        exact h8
                  refine r_iload_n hC dX8_order_69 rfl rfl ?_
                  refine r_iconst (v := nI 3) hC dX8_order_70 (by decide) ?_
                  refine r_icge (tgt := 142) hC dX8_order_71 (by decide) (fun h71 => ?_) (fun h71 => ?_)
                  · exact absurd ((nI_leI (by omega) (by omega)).mp h71) (by omega)
                  · refine r_aload_n hC dX8_order_74 rfl rfl ?_
                    refine r_getR  hC fl_X8_28 dX8_order_75 (h4.1.kd) (h4.1.r 8 rfl) ?_
                    refine r_iconst (v := nI 3) hC dX8_order_78 (by decide) ?_
                    refine r_aload_n hC dX8_order_79 rfl rfl ?_
                    refine r_getI hC fl_X8_79 rfl dX8_order_80 (h4.1.kd) (g5 h4) ?_
                    refine r_imul hC dX8_order_83 ?_
                    rw [pk_mul]
                    refine r_iload_n hC dX8_order_84 rfl rfl ?_
                    refine r_iadd hC dX8_order_85 ?_
                    rw [nI_add]
                    refine r_iconst (v := (-1)) hC dX8_order_86 (by decide) ?_
                    refine r_iast hC dX8_order_87 (h4.1.k 8 rfl) (rfl) (h4.1.lt 8 rfl (by show _ < 15; omega)) (h4.1.b 8 rfl) ?_
                    have h6 := h4.su 8 rfl (3 * aNo A + c) (-1)
                    rw [uO_8] at h6
                    refine r_iconst (v := nI 0) hC dX8_order_88 (by decide) ?_
                    refine r_istore hC dX8_order_89 (by decide) ?_
                    refine inner 43 0 _ rfl ?_
                    rw [← fl1_s]
                    exact h6
              refine r_iconst (v := nI 0) hC dX8_order_67 (by decide) ?_
              refine r_istore_n hC dX8_order_68 rfl (by decide) ?_
              refine loop 3 0 S3' none rfl ?_
              rw [fl1_0, fl1_0, fl1_0, uO_id]
              exact h3
end MOrder

