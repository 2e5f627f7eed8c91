/-! ===== the model's calls on books ===== -/
theorem MC.n23 {N : Nat → Int32} {R : Nat → Nat → Int32} {A : AS} (h : MC N R A) (x : Int32) : MC (uN N 23 x) R A := h
theorem mBk.bk {r1 r2 r3 r4 s1 s2 s3 s4 : Nat → Int32} {A : AS} {i n : Nat} {f1 f2 f3 : Nat → Int32} (hv : VU A) (h : mBk r1 r2 r3 r4 A) (hi : i < aNb A) (e1 : s1 i = nI n) (o1 : ∀ j, j ≠ i → s1 j = r1 j)
    (e2 : ∀ k, k < n → s2 (8 * i + k) = f1 k ∧ s3 (8 * i + k) = f2 k ∧ s4 (8 * i + k) = f3 k) (o2 : ∀ x, x < 8 * i ∨ 8 * i + 8 ≤ x → s2 x = r2 x ∧ s3 x = r3 x ∧ s4 x = r4 x) : mBk s1 s2 s3 s4 (bkA A i f1 f2 f3 n) := by
  refine ⟨fun j hj => ?_, fun j hj hj4 => ?_⟩
  · by_cases hz : j = i
    · subst hz
      obtain ⟨g1, g2, g3, g4⟩ := bkA_sz (A := A) (i := j) (f1 := f1) (f2 := f2) (f3 := f3) (n := n)
      rw [g1, g2, g3, g4]
      exact ⟨e1, e2⟩
    · obtain ⟨g1, g2, g3, g4⟩ := bkA_o (A := A) (i := i) (f1 := f1) (f2 := f2) (f3 := f3) (n := n) hz
      rw [g1, g2, g3, g4]
      obtain ⟨h1, h2⟩ := h.1 j hj
      have h8 := (hv.2.2.2.2.1 j hj).1
      refine ⟨(o1 j hz).trans h1, fun k hk => ?_⟩
      obtain ⟨a1, a2, a3⟩ := o2 (8 * j + k) (by omega)
      rw [a1, a2, a3]
      exact h2 k hk
  · have hj' : aNb A ≤ j := hj
    rw [o1 j (by omega)]
    exact h.2 j hj' hj4
theorem qF_LX {A : AS} (hv : VU A) {i o c f : Nat} (ho : o < aNo A) (hc : c < 3) (hf : f < 43) : qF A i (LX o c f) = flowQ A i o c f := by
  obtain ⟨e1, e2, e3⟩ := LX_o (o := o) (c := c) (f := f) hc hf
  unfold qF
  rw [e1, e2, e3, decide_eq_true ho]
  cases z : flowQ A i o c f with
  | false => simp
  | true =>
    rw [decide_eq_true ((hv.2.2.2.2.2.2.2.2.2.2 o ho c f hf).2 (flowQ_iff.mp z).2.2.1).1]
    rfl
theorem MC.flow {N : Nat → Int32} {R : Nat → Nat → Int32} {A : AS} (h : MC N R A) (hv : VU A) (i : Nat) : MC (uN N 19 (nI (aSp A + flowN A i))) (uR2 R (mk1 (qF A i) (R 9) 645) (mk1 (qF A i) (R 11) 645)) (flow A i).2.2 := by
  obtain ⟨⟨n1, n2, n3, n4, n5⟩, hB, hO, hL, hf, hs, hd⟩ := h
  have h5 := hv.2.1
  refine ⟨⟨n1, n2, n3, n4, rfl⟩, hB, hO, fun o ho c hc f hf43 => ?_, hf, hs, hd⟩
  have ho' : o < aNo A := ho
  obtain ⟨a1, a2, a3⟩ := hL o ho' c hc f hf43
  have hlt := LX_lt (o := o) (c := c) (f := f) (by omega) hc hf43
  show mk1 (qF A i) (R 9) 645 (LX o c f) = (if (if flowQ A i o c f = true then 0 else aHl A o c f) = 1 then aPos A o c f else -1) ∧ mk1 (qF A i) (R 11) 645 (LX o c f) = (if (if flowQ A i o c f = true then 0 else aHl A o c f) = 1 then trV (aTr A (aLs A o c f)) else -1) ∧ ((if flowQ A i o c f = true then 0 else aHl A o c f) = 1 → R 10 (LX o c f) = nI (aLs A o c f))
  unfold mk1
  rw [qF_LX hv ho' hc hf43]
  by_cases hq : flowQ A i o c f = true
  · have c1 : LX o c f < 645 ∧ flowQ A i o c f = true := ⟨hlt, hq⟩
    simp only [if_pos c1, if_pos hq]
    exact ⟨rfl, rfl, fun z => absurd z (by decide)⟩
  · have c1 : ¬ (LX o c f < 645 ∧ flowQ A i o c f = true) := fun z => hq z.2
    simp only [if_neg c1, if_neg hq]
    exact ⟨a1, a2, a3⟩
def uR3 (R : Nat → Nat → Int32) (a b c : Nat → Int32) : Nat → Nat → Int32 := uR (uR (uR R 2 a) 3 b) 4 c
theorem uR3_3 (R : Nat → Nat → Int32) (a b c d e f : Nat → Int32) : uR (uR (uR (uR3 R a b c) 2 d) 3 e) 4 f = uR3 R d e f := by
  funext k
  by_cases h4 : k = 4
  · simp only [uR3, uR, if_pos h4]
  · by_cases h3 : k = 3
    · simp only [uR3, uR, if_neg h4, if_pos h3]
    · by_cases h2 : k = 2
      · simp only [uR3, uR, if_neg h4, if_neg h3, if_pos h2]
      · simp only [uR3, uR, if_neg h4, if_neg h3, if_neg h2]
theorem uR3_id (R : Nat → Nat → Int32) : uR3 R (R 2) (R 3) (R 4) = R := by
  funext k
  by_cases h4 : k = 4
  · simp only [uR3, uR, if_pos h4]; rw [h4]
  · by_cases h3 : k = 3
    · simp only [uR3, uR, if_neg h4, if_pos h3]; rw [h3]
    · by_cases h2 : k = 2
      · simp only [uR3, uR, if_neg h4, if_neg h3, if_pos h2]; rw [h2]
      · simp only [uR3, uR, if_neg h4, if_neg h3, if_neg h2]
section MCalls
variable {l : Launch} {G : GG} {S S0 S' : PS} {tg tg' : TG} {md : Nat} {V : Nat → Nat} {N : Nat → Int32} {R : Nat → Nat → Int32} {A : AS}
theorem bI_iff {b : Bool} : bI b = 0 ↔ b = false := by cases b <;> decide
theorem EM.thr {r : OP} {x : Int32} {v : Option Value} (h : MX S S' tg md V (uN N 23 x) R) (hC : MC N R A) (hr : ∃ k, r = (k, 0, A) ∧ k ≠ 0 ∧ x = nI k) (hv : ∃ y, v = some (.int y)) : EM S tg md V r v S' := by
  obtain ⟨k, rfl, hk, rfl⟩ := hr
  obtain ⟨y, rfl⟩ := hv
  exact ⟨⟨y, rfl, fun z => absurd z hk⟩, _, _, h, hC.n23 _, uN_s _ _ _⟩
set_option maxRecDepth 100000 in
theorem m_wrong (hl : l.stackTraces = false) (hM : MM S tg md V N R) (hv : VU A) (hMC : MC N R A) (b d : Int32) :
    MT l G S yX8_wrong cX8_wrong 3 (some .int) (rmA 2) [va_rf (some md), .int b, .int d] (fun v S' => v = some (.int (nI (if ixb b (aNb A) = true ∧ ixb d (aSz A (ii b)) = true then 0 else 1))) ∧ S' = S) (fun _ => False) := by
  have h4 := hv.1
  refine MT_of (by decide +kernel) hl rfl (Nat.le_of_ble_eq_true rfl) (fun Z hC hzl hnm hT hQ => ?_)
  change J G Z S 0 0 0 [some (va_rf (some md)), some (.int b), some (.int d)] []
  have hzs : (zl Z).stackTraces = false := by rw [hzl]; exact hl
  refine r_aload_n hC dX8_wrong_0 rfl rfl ?_
  refine r_iload_n hC dX8_wrong_1 rfl rfl ?_
  refine r_cV (as := [.int b]) hC (m_isBook hzs hM b h4 hMC.1.1) cs_X8_isBook q_1018 q_1020 q_53 (hM.kd) (by decide) rfl dX8_wrong_2 rfl rfl ⟨Nat.le_of_ble_eq_true rfl, Nat.le_of_ble_eq_true rfl⟩ (Nat.le_of_ble_eq_true rfl) ⟨Nat.le_of_ble_eq_true rfl, Nat.le_of_ble_eq_true rfl⟩ (fun v2 S2 p2 => ?_) (fun _ x => x.elim)
  obtain ⟨rfl, e2⟩ := p2
  rw [e2]
  cases hb : ixb b (aNb A) with
  | false =>
    refine r_ifne (tgt := 12) hC dX8_wrong_5 (by decide) (fun h5 => ?_) (fun h5 => ?_)
    · exact absurd rfl h5
    · refine r_iconst (v := nI 1) hC dX8_wrong_8 (by decide) ?_
      refine r_goto (tgt := 33) hC dX8_wrong_9 (by decide) ?_
      refine r_iret hC hQ rfl dX8_wrong_33 (Nat.le_of_ble_eq_true rfl) (Nat.le_of_ble_eq_true rfl) ?_
      rw [hb, if_neg (fun z => absurd z.1 (by decide))]
      exact ⟨rfl, rfl⟩
  | true =>
    obtain ⟨i, hi, rfl⟩ : ∃ i, i < aNb A ∧ b = nI i := by
      have hb' := of_decide_eq_true hb
      refine ⟨b.toInt.toNat, by omega, ?_⟩
      apply Int32.toInt_inj.mp
      rw [nI_toInt (by omega)]
      omega
    have hi4 : i < 4 := by omega
    have h8 := (hv.2.2.2.2.1 i hi).1
    refine r_ifne (tgt := 12) hC dX8_wrong_5 (by decide) (fun h5 => ?_) (fun h5 => ?_)
    rotate_left
    · exact absurd h5 (by decide)
    · refine r_iload_n hC dX8_wrong_12 rfl rfl ?_
      refine r_iconst (v := nI 0) hC dX8_wrong_13 (by decide) ?_
      refine r_aload_n hC dX8_wrong_14 rfl rfl ?_
      refine r_getR  hC fl_X8_7 dX8_wrong_15 (hM.kd) (hM.r 1 rfl) ?_
      refine r_iload_n hC dX8_wrong_18 rfl rfl ?_
      refine r_iald hC dX8_wrong_19 (hM.k 1 rfl) (rfl) (hM.lt 1 rfl (by show _ < 4; omega)) (hM.b 1 rfl) ((congrFun (hM.a 1 rfl) _).trans ((hMC.2.1.1 i hi).1)) ?_
      refine r_iconst (v := nI 1) hC dX8_wrong_20 (by decide) ?_
      refine r_isub hC dX8_wrong_21 ?_
      refine r_cS (as := [.int d, .int (nI 0), .int (nI (aSz A i) - nI 1)]) hC (m_isInX hzs d (n := aSz A i) (by omega)) cs_X8_isIn q_1022 q_1023 dX8_wrong_22 rfl rfl ⟨Nat.le_of_ble_eq_true rfl, Nat.le_of_ble_eq_true rfl⟩ (Nat.le_of_ble_eq_true rfl) ⟨Nat.le_of_ble_eq_true rfl, Nat.le_of_ble_eq_true rfl⟩ (fun v22 S22 p22 => ?_) (fun _ x => x.elim)
      obtain ⟨rfl, e22⟩ := p22
      rw [e22]
      cases hd : ixb d (aSz A i) with
      | false =>
        refine r_ifeq (tgt := 32) hC dX8_wrong_25 (by decide) (fun h25 => ?_) (fun h25 => ?_)
        · refine r_iconst (v := nI 1) hC dX8_wrong_32 (by decide) ?_
          refine r_iret hC hQ rfl dX8_wrong_33 (Nat.le_of_ble_eq_true rfl) (Nat.le_of_ble_eq_true rfl) ?_
          rw [if_neg (fun z => by rw [ii_n (by omega), hd] at z; exact absurd z.2 (by decide))]
          exact ⟨rfl, rfl⟩
        · exact absurd rfl h25
      | true =>
        refine r_ifeq (tgt := 32) hC dX8_wrong_25 (by decide) (fun h25 => ?_) (fun h25 => ?_)
        · exact absurd h25 (by decide)
        · refine r_iconst (v := nI 0) hC dX8_wrong_28 (by decide) ?_
          refine r_goto (tgt := 33) hC dX8_wrong_29 (by decide) ?_
          refine r_iret hC hQ rfl dX8_wrong_33 (Nat.le_of_ble_eq_true rfl) (Nat.le_of_ble_eq_true rfl) ?_
          rw [if_pos ⟨hb, by rw [ii_n (by omega)]; exact hd⟩]
          exact ⟨rfl, rfl⟩
theorem ixb_of {b : Int32} {n : Nat} (hn : n < 2147483648) (hb : ixb b n = true) : ∃ i, i < n ∧ b = nI i ∧ ii b = i := by
  have hb' := of_decide_eq_true hb
  have e : b = nI b.toInt.toNat := by
    apply Int32.toInt_inj.mp
    rw [nI_toInt (by omega)]
    omega
  exact ⟨b.toInt.toNat, by omega, e, rfl⟩
set_option maxRecDepth 100000 in
theorem m_addBook (hl : l.stackTraces = false) (hM : MM S tg md V N R) (hv : VU A) (hMC : MC N R A) :
    MT l G S yX8_addBook cX8_addBook 1 (some .int) (rmA 3) [va_rf (some md)] (EM S tg md V (oAddBook A)) (fun _ => False) := by
  have h4 := hv.1
  refine MT_of (by decide +kernel) hl rfl (Nat.le_of_ble_eq_true rfl) (fun Z hC hzl hnm hT hQ => ?_)
  change J G Z S 0 0 0 [some (va_rf (some md))] []
  have hzs : (zl Z).stackTraces = false := by rw [hzl]; exact hl
  refine r_aload_n hC dX8_addBook_0 rfl rfl ?_
  refine r_aload_n hC dX8_addBook_1 rfl rfl ?_
  refine r_getI hC fl_X8_72 rfl dX8_addBook_2 (hM.kd) ((hM.n 0 rfl).trans hMC.1.1) ?_
  refine r_iconst (v := nI 4) hC dX8_addBook_5 (by decide) ?_
  refine r_icne (tgt := 13) hC dX8_addBook_6 (by decide) (fun h6 => ?_) (fun h6 => ?_)
  · have hne : aNb A ≠ 4 := fun z => h6 (by rw [z])
    refine r_iconst (v := nI 0) hC dX8_addBook_13 (by decide) ?_
    refine r_cV (as := [.int (nI 0)]) hC (m_goes hzs hM (nI 0)) cs_X8_goes q_1010 q_1012 q_52 (hM.kd) (by decide) rfl dX8_addBook_14 rfl rfl ⟨Nat.le_of_ble_eq_true rfl, Nat.le_of_ble_eq_true rfl⟩ (Nat.le_of_ble_eq_true rfl) ⟨Nat.le_of_ble_eq_true rfl, Nat.le_of_ble_eq_true rfl⟩ (fun v14 S14 p14 => ?_) (fun _ x => x.elim)
    obtain ⟨rfl, h1⟩ := p14
    have hM1 := h1.1
    refine r_ifne (tgt := 22) hC dX8_addBook_17 (by decide) (fun h17 => ?_) (fun h17 => ?_)
    · skip
      refine r_aload_n hC dX8_addBook_22 rfl rfl ?_
      refine r_dup hC dX8_addBook_23 rfl ?_
      refine r_getI hC fl_X8_72 rfl dX8_addBook_24 (hM1.kd) ((hM1.n 0 rfl).trans hMC.1.1) ?_
      refine r_iconst (v := nI 1) hC dX8_addBook_27 (by decide) ?_
      refine r_iadd hC dX8_addBook_28 ?_
      rw [nI_add]
      refine r_putI hC fl_X8_72 rfl (by decide) dX8_addBook_29 (hM1.kd) (fun h => absurd h (by decide)) ?_
      have h2 := h1.sn 0 rfl (nI (aNb A + 1))
      have hM2 := h2.1
      refine r_aload_n hC dX8_addBook_32 rfl rfl ?_
      refine r_getI hC fl_X8_72 rfl dX8_addBook_33 (hM2.kd) (hM2.n 0 rfl) ?_
      refine r_iconst (v := nI 1) hC dX8_addBook_36 (by decide) ?_
      refine r_isub hC dX8_addBook_37 ?_
      rw [show (uN (uN N 23 (nI 0)) 0 (nI (aNb A + 1))) 0 - nI 1 = nI (aNb A) from by rw [uN_s]; exact pk_sub (by omega)]
      refine r_iret hC hQ rfl dX8_addBook_38 (Nat.le_of_ble_eq_true rfl) (Nat.le_of_ble_eq_true rfl) ?_
      have e : oAddBook A = (0, nI (aNb A), uD (bkA A (aNb A) (fun _ => 0) (fun _ => 0) (fun _ => 0) 0) 0 0 0 0 (aNb A + 1)) := by unfold oAddBook; rw [if_neg hne]
      rw [e]
      refine ⟨⟨_, rfl, fun _ => rfl⟩, _, _, h2, ?_, rfl⟩
      obtain ⟨⟨n1, n2, n3, n4, n5⟩, hB, hO, hL, hf, hs, hd⟩ := hMC
      refine ⟨⟨rfl, n2, n3, n4, n5⟩, ⟨fun j hj => ?_, fun j hj hj4 => ?_⟩, hO, hL, hf, hs, hd⟩
      · have hj' : j < aNb A + 1 := hj
        show R 1 j = nI (aSz (bkA A (aNb A) (fun _ => 0) (fun _ => 0) (fun _ => 0) 0) j) ∧ ∀ k, k < aSz (bkA A (aNb A) (fun _ => 0) (fun _ => 0) (fun _ => 0) 0) j → R 2 (8 * j + k) = aPs (bkA A (aNb A) (fun _ => 0) (fun _ => 0) (fun _ => 0) 0) j k ∧ R 3 (8 * j + k) = aBt (bkA A (aNb A) (fun _ => 0) (fun _ => 0) (fun _ => 0) 0) j k ∧ R 4 (8 * j + k) = aCv (bkA A (aNb A) (fun _ => 0) (fun _ => 0) (fun _ => 0) 0) j k
        by_cases hz : j = aNb A
        · subst hz
          rw [bkA_sz.1]
          exact ⟨hB.2 _ (Nat.le_refl _) (by omega), fun k hk => absurd hk (Nat.not_lt_zero k)⟩
        · obtain ⟨g1, g2, g3, g4⟩ := bkA_o (A := A) (f1 := fun _ => 0) (f2 := fun _ => 0) (f3 := fun _ => 0) (n := 0) hz
          rw [g1, g2, g3, g4]
          exact hB.1 j (by omega)
      · have hj' : aNb A + 1 ≤ j := hj
        exact hB.2 j (by omega) hj4
    · exact absurd h17 (by decide)
  · have he : aNb A = 4 := (nI_eq (by omega) (by decide)).mp h6
    refine r_iconst (v := nI 1) hC dX8_addBook_9 (by decide) ?_
    refine r_goto (tgt := 14) hC dX8_addBook_10 (by decide) ?_
    refine r_cV (as := [.int (nI 1)]) hC (m_goes hzs hM (nI 1)) cs_X8_goes q_1010 q_1012 q_52 (hM.kd) (by decide) rfl dX8_addBook_14 rfl rfl ⟨Nat.le_of_ble_eq_true rfl, Nat.le_of_ble_eq_true rfl⟩ (Nat.le_of_ble_eq_true rfl) ⟨Nat.le_of_ble_eq_true rfl, Nat.le_of_ble_eq_true rfl⟩ (fun v14 S14 p14 => ?_) (fun _ x => x.elim)
    obtain ⟨rfl, h1⟩ := p14
    refine r_ifne (tgt := 22) hC dX8_addBook_17 (by decide) (fun h17 => ?_) (fun h17 => ?_)
    · exact absurd rfl h17
    · refine r_iconst (v := nI 0) hC dX8_addBook_20 (by decide) ?_
      refine r_iret hC hQ rfl dX8_addBook_21 (Nat.le_of_ble_eq_true rfl) (Nat.le_of_ble_eq_true rfl) ?_
      exact EM.thr h1 hMC ⟨1, by unfold oAddBook; rw [if_pos he], by decide, rfl⟩ ⟨_, rfl⟩
set_option maxRecDepth 100000 in
theorem m_frames (hl : l.stackTraces = false) (hM : MM S tg md V N R) (hv : VU A) (hMC : MC N R A) (b : Int32) :
    MT l G S yX8_frames cX8_frames 2 (some .int) (rmA 3) [va_rf (some md), .int b] (EM S tg md V (oFrames A b)) (fun _ => False) := by
  have h4 := hv.1
  refine MT_of (by decide +kernel) hl rfl (Nat.le_of_ble_eq_true rfl) (fun Z hC hzl hnm hT hQ => ?_)
  change J G Z S 0 0 0 [some (va_rf (some md)), some (.int b)] []
  have hzs : (zl Z).stackTraces = false := by rw [hzl]; exact hl
  refine r_aload_n hC dX8_frames_0 rfl rfl ?_
  refine r_aload_n hC dX8_frames_1 rfl rfl ?_
  refine r_iload_n hC dX8_frames_2 rfl rfl ?_
  refine r_cV (as := [.int b]) hC (m_isBook hzs hM b h4 hMC.1.1) cs_X8_isBook q_1018 q_1020 q_53 (hM.kd) (by decide) rfl dX8_frames_3 rfl rfl ⟨Nat.le_of_ble_eq_true rfl, Nat.le_of_ble_eq_true rfl⟩ (Nat.le_of_ble_eq_true rfl) ⟨Nat.le_of_ble_eq_true rfl, Nat.le_of_ble_eq_true rfl⟩ (fun v3 S3 p3 => ?_) (fun _ x => x.elim)
  obtain ⟨rfl, e3⟩ := p3
  rw [e3]
  cases hb : ixb b (aNb A) with
  | false =>
    refine r_ifeq (tgt := 13) hC dX8_frames_6 (by decide) (fun h6 => ?_) (fun h6 => ?_)
    · refine r_iconst (v := nI 1) hC dX8_frames_13 (by decide) ?_
      refine r_cV (as := [.int (nI 1)]) hC (m_goes hzs hM (nI 1)) cs_X8_goes q_1010 q_1012 q_52 (hM.kd) (by decide) rfl dX8_frames_14 rfl rfl ⟨Nat.le_of_ble_eq_true rfl, Nat.le_of_ble_eq_true rfl⟩ (Nat.le_of_ble_eq_true rfl) ⟨Nat.le_of_ble_eq_true rfl, Nat.le_of_ble_eq_true rfl⟩ (fun v14 S14 p14 => ?_) (fun _ x => x.elim)
      obtain ⟨rfl, h1⟩ := p14
      refine r_ifeq (tgt := 28) hC dX8_frames_17 (by decide) (fun h17 => ?_) (fun h17 => ?_)
      · refine r_iconst (v := nI 0) hC dX8_frames_28 (by decide) ?_
        refine r_iret hC hQ rfl dX8_frames_29 (Nat.le_of_ble_eq_true rfl) (Nat.le_of_ble_eq_true rfl) ?_
        exact EM.thr h1 hMC ⟨1, by unfold oFrames; rw [if_neg (by rw [hb]; decide)], by decide, rfl⟩ ⟨_, rfl⟩
      · exact absurd rfl h17
    · exact absurd rfl h6
  | true =>
    obtain ⟨i, hi, rfl, hii⟩ := ixb_of (by omega) hb
    refine r_ifeq (tgt := 13) hC dX8_frames_6 (by decide) (fun h6 => ?_) (fun h6 => ?_)
    · exact absurd h6 (by decide)
    · refine r_iconst (v := nI 0) hC dX8_frames_9 (by decide) ?_
      refine r_goto (tgt := 14) hC dX8_frames_10 (by decide) ?_
      refine r_cV (as := [.int (nI 0)]) hC (m_goes hzs hM (nI 0)) cs_X8_goes q_1010 q_1012 q_52 (hM.kd) (by decide) rfl dX8_frames_14 rfl rfl ⟨Nat.le_of_ble_eq_true rfl, Nat.le_of_ble_eq_true rfl⟩ (Nat.le_of_ble_eq_true rfl) ⟨Nat.le_of_ble_eq_true rfl, Nat.le_of_ble_eq_true rfl⟩ (fun v14 S14 p14 => ?_) (fun _ x => x.elim)
      obtain ⟨rfl, h1⟩ := p14
      refine r_ifeq (tgt := 28) hC dX8_frames_17 (by decide) (fun h17 => ?_) (fun h17 => ?_)
      · exact absurd h17 (by decide)
      · skip
        refine r_aload_n hC dX8_frames_20 rfl rfl ?_
        refine r_iload_n hC dX8_frames_21 rfl rfl ?_
        refine r_cV (as := [.int (nI i)]) hC (m_framesOf hzs h1.1 hv hMC.2.1 hi) cs_X8_framesOf q_1029 q_1031 q_55 (h1.1.kd) (by decide) rfl dX8_frames_22 rfl rfl ⟨Nat.le_of_ble_eq_true rfl, Nat.le_of_ble_eq_true rfl⟩ (Nat.le_of_ble_eq_true rfl) ⟨Nat.le_of_ble_eq_true rfl, Nat.le_of_ble_eq_true rfl⟩ (fun v22 S22 p22 => ?_) (fun _ x => x.elim)
        obtain ⟨rfl, e22⟩ := p22
        rw [e22]
        refine r_goto (tgt := 29) hC dX8_frames_25 (by decide) ?_
        refine r_iret hC hQ rfl dX8_frames_29 (Nat.le_of_ble_eq_true rfl) (Nat.le_of_ble_eq_true rfl) ?_
        have e : oFrames A (nI i) = (0, nI (aLen A i), A) := by unfold oFrames; rw [if_pos hb, hii]
        rw [e]
        exact ⟨⟨_, rfl, fun _ => rfl⟩, _, _, h1, hMC.n23 _, rfl⟩
set_option maxRecDepth 100000 in
theorem m_frameAt (hl : l.stackTraces = false) (hM : MM S tg md V N R) (hv : VU A) (hMC : MC N R A) (b f : Int32) :
    MT l G S yX8_frameAt cX8_frameAt 3 (some .int) (rmA 3) [va_rf (some md), .int b, .int f] (EM S tg md V (oFrameAt A b f)) (fun _ => False) := by
  have h4 := hv.1
  refine MT_of (by decide +kernel) hl rfl (Nat.le_of_ble_eq_true rfl) (fun Z hC hzl hnm hT hQ => ?_)
  change J G Z S 0 0 0 [some (va_rf (some md)), some (.int b), some (.int f)] []
  have hzs : (zl Z).stackTraces = false := by rw [hzl]; exact hl
  have thr : oFrameAt A b f = (1, 0, A) → J G Z S 0 0 33 [some (va_rf (some md)), some (.int b), some (.int f)] [.int (nI 1), va_rf (some md)] := by
    intro e
    refine r_cV (as := [.int (nI 1)]) hC (m_goes hzs hM (nI 1)) cs_X8_goes q_1010 q_1012 q_52 (hM.kd) (by decide) rfl dX8_frameAt_33 rfl rfl ⟨Nat.le_of_ble_eq_true rfl, Nat.le_of_ble_eq_true rfl⟩ (Nat.le_of_ble_eq_true rfl) ⟨Nat.le_of_ble_eq_true rfl, Nat.le_of_ble_eq_true rfl⟩ (fun v33 S33 p33 => ?_) (fun _ x => x.elim)
    obtain ⟨rfl, h1⟩ := p33
    refine r_ifne (tgt := 41) hC dX8_frameAt_36 (by decide) (fun h36 => ?_) (fun h36 => ?_)
    · exact absurd rfl h36
    · refine r_iconst (v := nI 0) hC dX8_frameAt_39 (by decide) ?_
      refine r_iret hC hQ rfl dX8_frameAt_40 (Nat.le_of_ble_eq_true rfl) (Nat.le_of_ble_eq_true rfl) ?_
      exact EM.thr h1 hMC ⟨1, e, by decide, rfl⟩ ⟨_, rfl⟩
  refine r_aload_n hC dX8_frameAt_0 rfl rfl ?_
  refine r_aload_n hC dX8_frameAt_1 rfl rfl ?_
  refine r_iload_n hC dX8_frameAt_2 rfl rfl ?_
  refine r_cV (as := [.int b]) hC (m_isBook hzs hM b h4 hMC.1.1) cs_X8_isBook q_1018 q_1020 q_53 (hM.kd) (by decide) rfl dX8_frameAt_3 rfl rfl ⟨Nat.le_of_ble_eq_true rfl, Nat.le_of_ble_eq_true rfl⟩ (Nat.le_of_ble_eq_true rfl) ⟨Nat.le_of_ble_eq_true rfl, Nat.le_of_ble_eq_true rfl⟩ (fun v3 S3 p3 => ?_) (fun _ x => x.elim)
  obtain ⟨rfl, e3⟩ := p3
  rw [e3]
  cases hb : ixb b (aNb A) with
  | false =>
    refine r_ifne (tgt := 13) hC dX8_frameAt_6 (by decide) (fun h6 => ?_) (fun h6 => ?_)
    · exact absurd rfl h6
    · refine r_iconst (v := nI 1) hC dX8_frameAt_9 (by decide) ?_
      refine r_goto (tgt := 33) hC dX8_frameAt_10 (by decide) ?_
      exact thr (by unfold oFrameAt; rw [if_neg (by rw [hb]; decide)])
  | true =>
    obtain ⟨i, hi, rfl, hii⟩ := ixb_of (by omega) hb
    have h43 := hv.len hi
    refine r_ifne (tgt := 13) hC dX8_frameAt_6 (by decide) (fun h6 => ?_) (fun h6 => ?_)
    rotate_left
    · exact absurd h6 (by decide)
    · refine r_iload_n hC dX8_frameAt_13 rfl rfl ?_
      refine r_iconst (v := nI 0) hC dX8_frameAt_14 (by decide) ?_
      refine r_aload_n hC dX8_frameAt_15 rfl rfl ?_
      refine r_iload_n hC dX8_frameAt_16 rfl rfl ?_
      refine r_cV (as := [.int (nI i)]) hC (m_framesOf hzs hM hv hMC.2.1 hi) cs_X8_framesOf q_1029 q_1031 q_55 (hM.kd) (by decide) rfl dX8_frameAt_17 rfl rfl ⟨Nat.le_of_ble_eq_true rfl, Nat.le_of_ble_eq_true rfl⟩ (Nat.le_of_ble_eq_true rfl) ⟨Nat.le_of_ble_eq_true rfl, Nat.le_of_ble_eq_true rfl⟩ (fun v17 S17 p17 => ?_) (fun _ x => x.elim)
      obtain ⟨rfl, e17⟩ := p17
      rw [e17]
      refine r_iconst (v := nI 1) hC dX8_frameAt_20 (by decide) ?_
      refine r_isub hC dX8_frameAt_21 ?_
      refine r_cS (as := [.int f, .int (nI 0), .int (nI (aLen A i) - nI 1)]) hC (m_isInX hzs f (n := aLen A i) (by omega)) cs_X8_isIn q_1022 q_1023 dX8_frameAt_22 rfl rfl ⟨Nat.le_of_ble_eq_true rfl, Nat.le_of_ble_eq_true rfl⟩ (Nat.le_of_ble_eq_true rfl) ⟨Nat.le_of_ble_eq_true rfl, Nat.le_of_ble_eq_true rfl⟩ (fun v22 S22 p22 => ?_) (fun _ x => x.elim)
      obtain ⟨rfl, e22⟩ := p22
      rw [e22]
      cases hf : ixb f (aLen A i) with
      | false =>
        refine r_ifeq (tgt := 32) hC dX8_frameAt_25 (by decide) (fun h25 => ?_) (fun h25 => ?_)
        · refine r_iconst (v := nI 1) hC dX8_frameAt_32 (by decide) ?_
          exact thr (by unfold oFrameAt; rw [if_pos hb, hii, if_neg (by rw [hf]; decide)])
        · exact absurd rfl h25
      | true =>
        obtain ⟨m, hm, rfl, hmm⟩ := ixb_of (by omega) hf
        refine r_ifeq (tgt := 32) hC dX8_frameAt_25 (by decide) (fun h25 => ?_) (fun h25 => ?_)
        · exact absurd h25 (by decide)
        · refine r_iconst (v := nI 0) hC dX8_frameAt_28 (by decide) ?_
          refine r_goto (tgt := 33) hC dX8_frameAt_29 (by decide) ?_
          refine r_cV (as := [.int (nI 0)]) hC (m_goes hzs hM (nI 0)) cs_X8_goes q_1010 q_1012 q_52 (hM.kd) (by decide) rfl dX8_frameAt_33 rfl rfl ⟨Nat.le_of_ble_eq_true rfl, Nat.le_of_ble_eq_true rfl⟩ (Nat.le_of_ble_eq_true rfl) ⟨Nat.le_of_ble_eq_true rfl, Nat.le_of_ble_eq_true rfl⟩ (fun v33 S33 p33 => ?_) (fun _ x => x.elim)
          obtain ⟨rfl, h1⟩ := p33
          refine r_ifne (tgt := 41) hC dX8_frameAt_36 (by decide) (fun h36 => ?_) (fun h36 => ?_)
          · refine r_aload_n hC dX8_frameAt_41 rfl rfl ?_
            refine r_iload_n hC dX8_frameAt_42 rfl rfl ?_
            refine r_iload_n hC dX8_frameAt_43 rfl rfl ?_
            refine r_cV (as := [.int (nI i), .int (nI m)]) hC (m_positionOf hzs h1.1 hv hMC.2.1 hi hm) cs_X8_positionOf q_1037 q_1039 q_57 (h1.1.kd) (by decide) rfl dX8_frameAt_44 rfl rfl ⟨Nat.le_of_ble_eq_true rfl, Nat.le_of_ble_eq_true rfl⟩ (Nat.le_of_ble_eq_true rfl) ⟨Nat.le_of_ble_eq_true rfl, Nat.le_of_ble_eq_true rfl⟩ (fun v44 S44 p44 => ?_) (fun _ x => x.elim)
            obtain ⟨rfl, e44⟩ := p44
            rw [e44]
            refine r_iret hC hQ rfl dX8_frameAt_47 (Nat.le_of_ble_eq_true rfl) (Nat.le_of_ble_eq_true rfl) ?_
            have e : oFrameAt A (nI i) (nI m) = (0, posA A i m, A) := by unfold oFrameAt; rw [if_pos hb, hii, if_pos hf, hmm]
            rw [e]
            exact ⟨⟨_, rfl, fun _ => rfl⟩, _, _, h1, hMC.n23 _, rfl⟩
          · exact absurd h36 (by decide)
theorem MX.su (h : MX S0 S tg md V N R) (k : Nat) (hk : mR k = true) (j : Nat) (x : Int32) : MX S0 (sA S (V k) (upd (pA S (V k)) j x)) tg md V N (uR R k (upd (R k) j x)) := by
  have := h.st k hk (upd (pA S (V k)) j x)
  rw [h.1.a k hk] at this ⊢
  exact this
theorem EM.flow {S1 : PS} (h : MX S S1 tg md V N R) (hv : VU A) (hMC : MC N R A) (h23 : N 23 = nI 0) {i : Nat} (h2 : MX S1 S' tg md V (uN N 19 (nI (aSp A + flowN A i))) (uR2 R (mk1 (qF A i) (R 9) 645) (mk1 (qF A i) (R 11) 645))) :
    EM S tg md V (0, nI (flowN A i), uD (spoA A (flowQ A i)) 0 4 0 0 (aSp A + flowN A i)) (some (.int (nI (flowN A i)))) S' := ⟨⟨_, rfl, fun _ => rfl⟩, _, _, h.tr h2, hMC.flow hv i, h23⟩
theorem shD_t (f : Nat → Int32) {a m : Nat} (h : a ≤ m) : upd (shD f a (m + 1)) m (shD f a (m + 1) (m + 1)) = shD f a (m + 2) := shD_s f (by omega)
set_option maxRecDepth 100000 in
set_option maxHeartbeats 1000000 in
theorem m_move (hl : l.stackTraces = false) (hM : MM S tg md V N R) (hv : VU A) (hMC : MC N R A) (b d p : Int32) :
    MT l G S yX8_move cX8_move 4 (some .int) (rmA 4) [va_rf (some md), .int b, .int d, .int p] (EM S tg md V (oMove A b d p)) (fun _ => False) := by
  have h4 := hv.1
  refine MT_of (by decide +kernel) hl rfl (Nat.le_of_ble_eq_true rfl) (fun Z hC hzl hnm hT hQ => ?_)
  change J G Z S 0 0 0 [some (va_rf (some md)), some (.int b), some (.int d), some (.int p)] []
  have hzs : (zl Z).stackTraces = false := by rw [hzl]; exact hl
  refine r_aload_n hC dX8_move_0 rfl rfl ?_
  refine r_aload_n hC dX8_move_1 rfl rfl ?_
  refine r_iload_n hC dX8_move_2 rfl rfl ?_
  refine r_iload_n hC dX8_move_3 rfl rfl ?_
  refine r_cV (as := [.int b, .int d]) hC (m_wrong hzs hM hv hMC b d) cs_X8_wrong q_1052 q_1054 q_59 (hM.kd) (by decide) rfl dX8_move_4 rfl rfl ⟨Nat.le_of_ble_eq_true rfl, Nat.le_of_ble_eq_true rfl⟩ (Nat.le_of_ble_eq_true rfl) ⟨Nat.le_of_ble_eq_true rfl, Nat.le_of_ble_eq_true rfl⟩ (fun v4 S4 p4 => ?_) (fun _ x => x.elim)
  obtain ⟨rfl, e4⟩ := p4
  rw [e4]
  by_cases hw : ixb b (aNb A) = true ∧ ixb d (aSz A (ii b)) = true
  · rw [if_pos hw]
    obtain ⟨hb, hd⟩ := hw
    obtain ⟨i, hi, rfl, hii⟩ := ixb_of (by omega) hb
    rw [hii] at hd
    have hv5 := hv.2.2.2.2.1 i hi
    obtain ⟨k, hk, rfl, hkk⟩ := ixb_of (by omega) hd
    refine r_cV (as := [.int (nI 0)]) hC (m_goes hzs hM (nI 0)) cs_X8_goes q_1010 q_1012 q_52 (hM.kd) (by decide) rfl dX8_move_7 rfl rfl ⟨Nat.le_of_ble_eq_true rfl, Nat.le_of_ble_eq_true rfl⟩ (Nat.le_of_ble_eq_true rfl) ⟨Nat.le_of_ble_eq_true rfl, Nat.le_of_ble_eq_true rfl⟩ (fun v7 S7 p7 => ?_) (fun _ x => x.elim)
    obtain ⟨rfl, h1⟩ := p7
    refine r_ifeq (tgt := 36) hC dX8_move_10 (by decide) (fun h10 => ?_) (fun h10 => ?_)
    · exact absurd h10 (by decide)
    · skip
      refine r_aload_n hC dX8_move_13 rfl rfl ?_
      refine r_iload_n hC dX8_move_14 rfl rfl ?_
      refine r_iconst (v := nI 0) hC dX8_move_15 (by decide) ?_
      refine r_sipush (v := nI 999) hC dX8_move_16 (by decide) ?_
      refine r_cS (as := [.int p, .int (nI 0), .int (nI 999)]) hC (m_isIn hzs p (nI 0) (nI 999)) cs_X8_isIn q_1022 q_1023 dX8_move_19 rfl rfl ⟨Nat.le_of_ble_eq_true rfl, Nat.le_of_ble_eq_true rfl⟩ (Nat.le_of_ble_eq_true rfl) ⟨Nat.le_of_ble_eq_true rfl, Nat.le_of_ble_eq_true rfl⟩ (fun v19 S19 p19 => ?_) (fun _ x => x.elim)
      obtain ⟨rfl, e19⟩ := p19
      rw [e19]
      cases hp : decide (nI 0 ≤ p ∧ p ≤ nI 999) with
      | false =>
        refine r_ifeq (tgt := 29) hC dX8_move_22 (by decide) (fun h22 => ?_) (fun h22 => ?_)
        · refine r_iconst (v := nI 2) hC dX8_move_29 (by decide) ?_
          refine r_cV (as := [.int (nI 2)]) hC (m_goes hzs h1.1 (nI 2)) cs_X8_goes q_1010 q_1012 q_52 (h1.1.kd) (by decide) rfl dX8_move_30 rfl rfl ⟨Nat.le_of_ble_eq_true rfl, Nat.le_of_ble_eq_true rfl⟩ (Nat.le_of_ble_eq_true rfl) ⟨Nat.le_of_ble_eq_true rfl, Nat.le_of_ble_eq_true rfl⟩ (fun v30 S30 p30 => ?_) (fun _ x => x.elim)
          obtain ⟨rfl, h2⟩ := p30
          have h3 := h1.tr h2
          rw [uN_uN] at h3
          refine r_ifne (tgt := 38) hC dX8_move_33 (by decide) (fun h33 => ?_) (fun h33 => ?_)
          · exact absurd rfl h33
          · refine r_iconst (v := nI 0) hC dX8_move_36 (by decide) ?_
            refine r_iret hC hQ rfl dX8_move_37 (Nat.le_of_ble_eq_true rfl) (Nat.le_of_ble_eq_true rfl) ?_
            exact EM.thr h3 hMC ⟨2, by unfold oMove; rw [if_pos hb, hii, if_pos hd, if_neg (by unfold rgb; rw [hp]; decide)], by decide, rfl⟩ ⟨_, rfl⟩
        · exact absurd rfl h22
      | true =>
        obtain ⟨r1, r2⟩ := of_decide_eq_true hp
        obtain ⟨x, hx, rfl⟩ := rgb_n (by decide) r1 r2
        refine r_ifeq (tgt := 29) hC dX8_move_22 (by decide) (fun h22 => ?_) (fun h22 => ?_)
        · exact absurd h22 (by decide)
        · refine r_iconst (v := nI 0) hC dX8_move_25 (by decide) ?_
          refine r_goto (tgt := 30) hC dX8_move_26 (by decide) ?_
          refine r_cV (as := [.int (nI 0)]) hC (m_goes hzs h1.1 (nI 0)) cs_X8_goes q_1010 q_1012 q_52 (h1.1.kd) (by decide) rfl dX8_move_30 rfl rfl ⟨Nat.le_of_ble_eq_true rfl, Nat.le_of_ble_eq_true rfl⟩ (Nat.le_of_ble_eq_true rfl) ⟨Nat.le_of_ble_eq_true rfl, Nat.le_of_ble_eq_true rfl⟩ (fun v30 S30 p30 => ?_) (fun _ x => x.elim)
          obtain ⟨rfl, h2⟩ := p30
          have h3 := h1.tr h2
          rw [uN_uN] at h3
          refine r_ifne (tgt := 38) hC dX8_move_33 (by decide) (fun h33 => ?_) (fun h33 => ?_)
          · refine r_aload_n hC dX8_move_38 rfl rfl ?_
            refine r_getR  hC fl_X8_13 dX8_move_39 (h3.1.kd) (h3.1.r 2 rfl) ?_
            refine r_bipush (v := nI 8) hC dX8_move_42 (by decide) ?_
            refine r_iload_n hC dX8_move_44 rfl rfl ?_
            refine r_imul hC dX8_move_45 ?_
            refine r_iload_n hC dX8_move_46 rfl rfl ?_
            refine r_iadd hC dX8_move_47 ?_
            refine r_iload_n hC dX8_move_48 rfl rfl ?_
            refine r_iast hC dX8_move_49 (h3.1.k 2 rfl) (by rw [pk_mul, nI_add]) (h3.1.lt 2 rfl (by show _ < 32; omega)) (h3.1.b 2 rfl) ?_
            have h4' := h3.su 2 rfl (8 * i + k) (nI x)
            have hvn := hv.bk (i := i) (n := aSz A i) hv5.1 (VB_put (a := k) hv5.2 hx)
            have hB : mBk (R 1) (upd (R 2) (8 * i + k) (nI x)) (R 3) (R 4) (bkA A i (upd (aPs A i) k (nI x)) (aBt A i) (aCv A i) (aSz A i)) := by
              obtain ⟨b1, b2⟩ := hMC.2.1.1 i hi
              refine mBk.bk hv hMC.2.1 hi b1 (fun _ _ => rfl) (fun k' hk' => ?_) (fun y hy => ⟨pk_un (by omega), rfl, rfl⟩)
              obtain ⟨c1, c2, c3⟩ := b2 k' hk'
              refine ⟨?_, c2, c3⟩
              by_cases hz : k' = k
              · rw [hz, pk_us, pk_us]
              · rw [pk_un (by omega), pk_un hz]
                exact c1
            have hMC' : MC (uN N 23 (nI 0)) (uR R 2 (upd (R 2) (8 * i + k) (nI x))) (bkA A i (upd (aPs A i) k (nI x)) (aBt A i) (aCv A i) (aSz A i)) := by
              obtain ⟨a1, a2, a3⟩ := hMC
              exact ⟨a1, hB, a3⟩
            refine r_aload_n hC dX8_move_50 rfl rfl ?_
            refine r_iload_n hC dX8_move_51 rfl rfl ?_
            refine r_cV (as := [.int (nI i)]) hC (m_flows hzs h4'.1 hvn hMC'.1.2.1 hMC'.2.1 hMC'.2.2.1 hMC'.2.2.2.1 (i := i) hi hMC'.1.2.2.2.2) cs_X8_flows q_1025 q_1027 q_54 (h4'.1.kd) (by decide) rfl dX8_move_52 rfl rfl ⟨Nat.le_of_ble_eq_true rfl, Nat.le_of_ble_eq_true rfl⟩ (Nat.le_of_ble_eq_true rfl) ⟨Nat.le_of_ble_eq_true rfl, Nat.le_of_ble_eq_true rfl⟩ (fun v52 S52 p52 => ?_) (fun _ x => x.elim)
            obtain ⟨rfl, h5⟩ := p52
            refine r_iret hC hQ rfl dX8_move_55 (Nat.le_of_ble_eq_true rfl) (Nat.le_of_ble_eq_true rfl) ?_
            have e : oMove A (nI i) (nI k) (nI x) = flow (bkA A i (upd (aPs A i) k (nI x)) (aBt A i) (aCv A i) (aSz A i)) i := by
              unfold oMove
              rw [if_pos hb, hii, if_pos hd, hkk, if_pos (rgb_t r1 r2)]
            rw [e]
            exact EM.flow h4' hvn hMC' rfl h5
          · exact absurd h33 (by decide)
  · rw [if_neg hw]
    refine r_cV (as := [.int (nI 1)]) hC (m_goes hzs hM (nI 1)) cs_X8_goes q_1010 q_1012 q_52 (hM.kd) (by decide) rfl dX8_move_7 rfl rfl ⟨Nat.le_of_ble_eq_true rfl, Nat.le_of_ble_eq_true rfl⟩ (Nat.le_of_ble_eq_true rfl) ⟨Nat.le_of_ble_eq_true rfl, Nat.le_of_ble_eq_true rfl⟩ (fun v7 S7 p7 => ?_) (fun _ x => x.elim)
    obtain ⟨rfl, h1⟩ := p7
    refine r_ifeq (tgt := 36) hC dX8_move_10 (by decide) (fun h10 => ?_) (fun h10 => ?_)
    · refine r_iconst (v := nI 0) hC dX8_move_36 (by decide) ?_
      refine r_iret hC hQ rfl dX8_move_37 (Nat.le_of_ble_eq_true rfl) (Nat.le_of_ble_eq_true rfl) ?_
      refine EM.thr h1 hMC ⟨1, ?_, by decide, rfl⟩ ⟨_, rfl⟩
      unfold oMove
      by_cases hb : ixb b (aNb A) = true
      · rw [if_pos hb, if_neg (fun z => hw ⟨hb, z⟩)]
      · rw [if_neg hb]
    · exact absurd rfl h10
set_option maxRecDepth 100000 in
set_option maxHeartbeats 2000000 in
theorem m_erase (hl : l.stackTraces = false) (hM : MM S tg md V N R) (hv : VU A) (hMC : MC N R A) (b d : Int32) :
    MT l G S yX8_erase cX8_erase 4 (some .int) (rmA 4) [va_rf (some md), .int b, .int d] (EM S tg md V (oErase A b d)) (fun _ => False) := by
  have h4 := hv.1
  refine MT_of (by decide +kernel) hl rfl (Nat.le_of_ble_eq_true rfl) (fun Z hC hzl hnm hT hQ => ?_)
  change J G Z S 0 0 0 [some (va_rf (some md)), some (.int b), some (.int d), none] []
  have hzs : (zl Z).stackTraces = false := by rw [hzl]; exact hl
  refine r_aload_n hC dX8_erase_0 rfl rfl ?_
  refine r_aload_n hC dX8_erase_1 rfl rfl ?_
  refine r_iload_n hC dX8_erase_2 rfl rfl ?_
  refine r_iload_n hC dX8_erase_3 rfl rfl ?_
  refine r_cV (as := [.int b, .int d]) hC (m_wrong hzs hM hv hMC b d) cs_X8_wrong q_1052 q_1054 q_59 (hM.kd) (by decide) rfl dX8_erase_4 rfl rfl ⟨Nat.le_of_ble_eq_true rfl, Nat.le_of_ble_eq_true rfl⟩ (Nat.le_of_ble_eq_true rfl) ⟨Nat.le_of_ble_eq_true rfl, Nat.le_of_ble_eq_true rfl⟩ (fun v4 S4 p4 => ?_) (fun _ x => x.elim)
  obtain ⟨rfl, e4⟩ := p4
  rw [e4]
  by_cases hw : ixb b (aNb A) = true ∧ ixb d (aSz A (ii b)) = true
  · rw [if_pos hw]
    obtain ⟨hb, hd⟩ := hw
    obtain ⟨i, hi, rfl, hii⟩ := ixb_of (by omega) hb
    rw [hii] at hd
    obtain ⟨h8, hV⟩ := hv.2.2.2.2.1 i hi
    obtain ⟨a, ha, rfl, haa⟩ := ixb_of (by omega) hd
    obtain ⟨n, hn⟩ : ∃ n, aSz A i = n + 1 := ⟨aSz A i - 1, by omega⟩
    obtain ⟨b1, b2⟩ := hMC.2.1.1 i hi
    refine r_cV (as := [.int (nI 0)]) hC (m_goes hzs hM (nI 0)) cs_X8_goes q_1010 q_1012 q_52 (hM.kd) (by decide) rfl dX8_erase_7 rfl rfl ⟨Nat.le_of_ble_eq_true rfl, Nat.le_of_ble_eq_true rfl⟩ (Nat.le_of_ble_eq_true rfl) ⟨Nat.le_of_ble_eq_true rfl, Nat.le_of_ble_eq_true rfl⟩ (fun v7 S7 p7 => ?_) (fun _ x => x.elim)
    obtain ⟨rfl, h1⟩ := p7
    refine r_ifne (tgt := 15) hC dX8_erase_10 (by decide) (fun h10 => ?_) (fun h10 => ?_)
    rotate_left
    · exact absurd h10 (by decide)
    · refine r_aload_n hC dX8_erase_15 rfl rfl ?_
      refine r_getR  hC fl_X8_7 dX8_erase_16 (h1.1.kd) (h1.1.r 1 rfl) ?_
      refine r_iload_n hC dX8_erase_19 rfl rfl ?_
      refine r_dup2 hC dX8_erase_20 rfl rfl ?_
      refine r_iald hC dX8_erase_21 (h1.1.k 1 rfl) (rfl) (h1.1.lt 1 rfl (by show _ < 4; omega)) (h1.1.b 1 rfl) ((congrFun (h1.1.a 1 rfl) _).trans (b1)) ?_
      refine r_iconst (v := nI 1) hC dX8_erase_22 (by decide) ?_
      refine r_isub hC dX8_erase_23 ?_
      rw [show (nI (aSz A i) - nI 1 : Int32) = nI n from by rw [hn]; exact pk_sub (by omega)]
      refine r_iast hC dX8_erase_24 (h1.1.k 1 rfl) (rfl) (h1.1.lt 1 rfl (by show _ < 4; omega)) (h1.1.b 1 rfl) ?_
      have h2 := h1.su 1 rfl i (nI n)
      obtain ⟨R1, eR1⟩ : ∃ z, z = uR R 1 (upd (R 1) i (nI n)) := ⟨_, rfl⟩
      rw [← eR1] at h2
      have r1i : R1 1 i = nI n := by rw [eR1]; exact pk_us
      obtain ⟨S2, eS2⟩ : ∃ z, z = sA S7 (V 1) (upd (pA S7 (V 1)) i (nI n)) := ⟨_, rfl⟩
      rw [← eS2] at h2 ⊢
      have loop : ∀ (e j : Nat) (S3 : PS), j + e = n → a ≤ j → MX S S3 tg md V (uN N 23 (nI 0)) (uR3 R1 (shD (R 2) (8 * i + a) (8 * i + j + 1)) (shD (R 3) (8 * i + a) (8 * i + j + 1)) (shD (R 4) (8 * i + a) (8 * i + j + 1))) →
          J G Z S3 0 0 32 [some (va_rf (some md)), some (.int (nI i)), some (.int (nI a)), some (.int (nI (8 * i + j)))] [] := by
        intro e
        induction e with
        | zero =>
          intro j S3 hj haj h3
          have hj : j = n := by omega
          subst hj
          refine r_iload_n hC dX8_erase_32 rfl rfl ?_
          refine r_bipush (v := nI 8) hC dX8_erase_33 (by decide) ?_
          refine r_iload_n hC dX8_erase_35 rfl rfl ?_
          refine r_imul hC dX8_erase_36 ?_
          rw [pk_mul]
          refine r_aload_n hC dX8_erase_37 rfl rfl ?_
          refine r_getR  hC fl_X8_7 dX8_erase_38 (h3.1.kd) (h3.1.r 1 rfl) ?_
          refine r_iload_n hC dX8_erase_41 rfl rfl ?_
          refine r_iald hC dX8_erase_42 (h3.1.k 1 rfl) (rfl) (h3.1.lt 1 rfl (by show _ < 4; omega)) (h3.1.b 1 rfl) ((congrFun (h3.1.a 1 rfl) _).trans (r1i)) ?_
          refine r_iadd hC dX8_erase_43 ?_
          rw [nI_add]
          refine r_icge (tgt := 95) hC dX8_erase_44 (by decide) (fun h44 => ?_) (fun h44 => ?_)
          · have hvn := hv.bk (i := i) (n := j) (f1 := shD (aPs A i) a (j + 1)) (f2 := shD (aBt A i) a (j + 1)) (f3 := shD (aCv A i) a (j + 1)) (by omega) (VB_del (by rw [← hn]; exact hV) (by omega))
            have sh : ∀ (r : Nat → Int32) (f : Nat → Int32), (∀ k, k < j + 1 → r (8 * i + k) = f k) → ∀ k, k < j → shD r (8 * i + a) (8 * i + j + 1) (8 * i + k) = shD f a (j + 1) k := by
              intro r f hrf k hk
              unfold shD
              by_cases hz : a ≤ k ∧ k + 1 < j + 1
              · rw [if_pos hz, if_pos ⟨by omega, by omega⟩]
                exact hrf (k + 1) (by omega)
              · rw [if_neg hz, if_neg (fun w => hz ⟨by omega, by omega⟩)]
                exact hrf k (by omega)
            have so : ∀ (r : Nat → Int32) y, y < 8 * i ∨ 8 * i + 8 ≤ y → shD r (8 * i + a) (8 * i + j + 1) y = r y := by
              intro r y hy
              unfold shD
              rw [if_neg (fun w => by omega)]
            have hB : mBk (upd (R 1) i (nI j)) (shD (R 2) (8 * i + a) (8 * i + j + 1)) (shD (R 3) (8 * i + a) (8 * i + j + 1)) (shD (R 4) (8 * i + a) (8 * i + j + 1)) (bkA A i (shD (aPs A i) a (j + 1)) (shD (aBt A i) a (j + 1)) (shD (aCv A i) a (j + 1)) j) := by
              refine mBk.bk hv hMC.2.1 hi pk_us (fun y hy => pk_un hy) (fun k hk => ⟨sh _ _ (fun k hk => (b2 k (by omega)).1) k hk, sh _ _ (fun k hk => (b2 k (by omega)).2.1) k hk, sh _ _ (fun k hk => (b2 k (by omega)).2.2) k hk⟩) (fun y hy => ⟨so _ y hy, so _ y hy, so _ y hy⟩)
            rw [eR1] at h3
            have hMC' : MC (uN N 23 (nI 0)) (uR3 (uR R 1 (upd (R 1) i (nI j))) (shD (R 2) (8 * i + a) (8 * i + j + 1)) (shD (R 3) (8 * i + a) (8 * i + j + 1)) (shD (R 4) (8 * i + a) (8 * i + j + 1))) (bkA A i (shD (aPs A i) a (j + 1)) (shD (aBt A i) a (j + 1)) (shD (aCv A i) a (j + 1)) j) := by
              obtain ⟨a1, a2, a3⟩ := hMC
              exact ⟨a1, hB, a3⟩
            refine r_aload_n hC dX8_erase_95 rfl rfl ?_
            refine r_iload_n hC dX8_erase_96 rfl rfl ?_
            refine r_cV (as := [.int (nI i)]) hC (m_flows hzs h3.1 hvn hMC'.1.2.1 hMC'.2.1 hMC'.2.2.1 hMC'.2.2.2.1 (i := i) hi hMC'.1.2.2.2.2) cs_X8_flows q_1025 q_1027 q_54 (h3.1.kd) (by decide) rfl dX8_erase_97 rfl rfl ⟨Nat.le_of_ble_eq_true rfl, Nat.le_of_ble_eq_true rfl⟩ (Nat.le_of_ble_eq_true rfl) ⟨Nat.le_of_ble_eq_true rfl, Nat.le_of_ble_eq_true rfl⟩ (fun v97 S97 p97 => ?_) (fun _ x => x.elim)
            obtain ⟨rfl, h5⟩ := p97
            refine r_iret hC hQ rfl dX8_erase_100 (Nat.le_of_ble_eq_true rfl) (Nat.le_of_ble_eq_true rfl) ?_
            have e : oErase A (nI i) (nI a) = flow (bkA A i (shD (aPs A i) a (j + 1)) (shD (aBt A i) a (j + 1)) (shD (aCv A i) a (j + 1)) j) i := by
              unfold oErase
              rw [if_pos hb, hii, if_pos hd, haa, hn, Nat.add_sub_cancel]
            rw [e]
            exact EM.flow h3 hvn hMC' rfl h5
          · exact absurd (Int32.le_refl _) h44
        | succ e ih =>
          intro j S3 hj haj h3
          refine r_iload_n hC dX8_erase_32 rfl rfl ?_
          refine r_bipush (v := nI 8) hC dX8_erase_33 (by decide) ?_
          refine r_iload_n hC dX8_erase_35 rfl rfl ?_
          refine r_imul hC dX8_erase_36 ?_
          rw [pk_mul]
          refine r_aload_n hC dX8_erase_37 rfl rfl ?_
          refine r_getR  hC fl_X8_7 dX8_erase_38 (h3.1.kd) (h3.1.r 1 rfl) ?_
          refine r_iload_n hC dX8_erase_41 rfl rfl ?_
          refine r_iald hC dX8_erase_42 (h3.1.k 1 rfl) (rfl) (h3.1.lt 1 rfl (by show _ < 4; omega)) (h3.1.b 1 rfl) ((congrFun (h3.1.a 1 rfl) _).trans (r1i)) ?_
          refine r_iadd hC dX8_erase_43 ?_
          rw [nI_add]
          refine r_icge (tgt := 95) hC dX8_erase_44 (by decide) (fun h44 => ?_) (fun h44 => ?_)
          · exact absurd ((nI_leI (by omega) (by omega)).mp h44) (by omega)
          · refine r_aload_n hC dX8_erase_47 rfl rfl ?_
            refine r_getR  hC fl_X8_13 dX8_erase_48 (h3.1.kd) (h3.1.r 2 rfl) ?_
            refine r_iload_n hC dX8_erase_51 rfl rfl ?_
            refine r_aload_n hC dX8_erase_52 rfl rfl ?_
            refine r_getR  hC fl_X8_13 dX8_erase_53 (h3.1.kd) (h3.1.r 2 rfl) ?_
            refine r_iload_n hC dX8_erase_56 rfl rfl ?_
            refine r_iconst (v := nI 1) hC dX8_erase_57 (by decide) ?_
            refine r_iadd hC dX8_erase_58 ?_
            refine r_iald hC dX8_erase_59 (h3.1.k 2 rfl) (nI_1 _) (h3.1.lt 2 rfl (by show _ < 32; omega)) (h3.1.b 2 rfl) (congrFun (h3.1.a 2 rfl) _) ?_
            refine r_iast hC dX8_erase_60 (h3.1.k 2 rfl) (rfl) (h3.1.lt 2 rfl (by show _ < 32; omega)) (h3.1.b 2 rfl) ?_
            have h31 := h3.su 2 rfl (8 * i + j) (shD (R 2) (8 * i + a) (8 * i + j + 1) (8 * i + j + 1))
            refine r_aload_n hC dX8_erase_61 rfl rfl ?_
            refine r_getR  hC fl_X8_16 dX8_erase_62 (h31.1.kd) (h31.1.r 3 rfl) ?_
            refine r_iload_n hC dX8_erase_65 rfl rfl ?_
            refine r_aload_n hC dX8_erase_66 rfl rfl ?_
            refine r_getR  hC fl_X8_16 dX8_erase_67 (h31.1.kd) (h31.1.r 3 rfl) ?_
            refine r_iload_n hC dX8_erase_70 rfl rfl ?_
            refine r_iconst (v := nI 1) hC dX8_erase_71 (by decide) ?_
            refine r_iadd hC dX8_erase_72 ?_
            refine r_iald hC dX8_erase_73 (h31.1.k 3 rfl) (nI_1 _) (h31.1.lt 3 rfl (by show _ < 32; omega)) (h31.1.b 3 rfl) (congrFun (h31.1.a 3 rfl) _) ?_
            refine r_iast hC dX8_erase_74 (h31.1.k 3 rfl) (rfl) (h31.1.lt 3 rfl (by show _ < 32; omega)) (h31.1.b 3 rfl) ?_
            have h32 := h31.su 3 rfl (8 * i + j) (shD (R 3) (8 * i + a) (8 * i + j + 1) (8 * i + j + 1))
            refine r_aload_n hC dX8_erase_75 rfl rfl ?_
            refine r_getR  hC fl_X8_19 dX8_erase_76 (h32.1.kd) (h32.1.r 4 rfl) ?_
            refine r_iload_n hC dX8_erase_79 rfl rfl ?_
            refine r_aload_n hC dX8_erase_80 rfl rfl ?_
            refine r_getR  hC fl_X8_19 dX8_erase_81 (h32.1.kd) (h32.1.r 4 rfl) ?_
            refine r_iload_n hC dX8_erase_84 rfl rfl ?_
            refine r_iconst (v := nI 1) hC dX8_erase_85 (by decide) ?_
            refine r_iadd hC dX8_erase_86 ?_
            refine r_iald hC dX8_erase_87 (h32.1.k 4 rfl) (nI_1 _) (h32.1.lt 4 rfl (by show _ < 32; omega)) (h32.1.b 4 rfl) (congrFun (h32.1.a 4 rfl) _) ?_
            refine r_iast hC dX8_erase_88 (h32.1.k 4 rfl) (rfl) (h32.1.lt 4 rfl (by show _ < 32; omega)) (h32.1.b 4 rfl) ?_
            have h33 := h32.su 4 rfl (8 * i + j) (shD (R 4) (8 * i + a) (8 * i + j + 1) (8 * i + j + 1))
            have h34 : MX S _ tg md V (uN N 23 (nI 0)) (uR (uR (uR (uR3 R1 (shD (R 2) (8 * i + a) (8 * i + j + 1)) (shD (R 3) (8 * i + a) (8 * i + j + 1)) (shD (R 4) (8 * i + a) (8 * i + j + 1))) 2 (upd (shD (R 2) (8 * i + a) (8 * i + j + 1)) (8 * i + j) (shD (R 2) (8 * i + a) (8 * i + j + 1) (8 * i + j + 1)))) 3 (upd (shD (R 3) (8 * i + a) (8 * i + j + 1)) (8 * i + j) (shD (R 3) (8 * i + a) (8 * i + j + 1) (8 * i + j + 1)))) 4 (upd (shD (R 4) (8 * i + a) (8 * i + j + 1)) (8 * i + j) (shD (R 4) (8 * i + a) (8 * i + j + 1) (8 * i + j + 1)))) := h33
            rw [uR3_3, shD_t _ (by omega), shD_t _ (by omega), shD_t _ (by omega)] at h34
            refine r_iinc hC dX8_erase_89 rfl (ii1 _) ?_
            refine r_goto (tgt := 32) hC dX8_erase_92 (by decide) ?_
            exact ih (j + 1) _ (by omega) (by omega) h34
      refine r_bipush (v := nI 8) hC dX8_erase_25 (by decide) ?_
      refine r_iload_n hC dX8_erase_27 rfl rfl ?_
      refine r_imul hC dX8_erase_28 ?_
      rw [pk_mul]
      refine r_iload_n hC dX8_erase_29 rfl rfl ?_
      refine r_iadd hC dX8_erase_30 ?_
      rw [nI_add]
      refine r_istore_n hC dX8_erase_31 rfl (by decide) ?_
      refine loop (n - a) a S2 (by omega) (Nat.le_refl _) ?_
      rw [shD_0, shD_0, shD_0, show uR3 R1 (R 2) (R 3) (R 4) = R1 from by
        have := uR3_id R1
        rw [show R1 2 = R 2 from by rw [eR1]; rfl, show R1 3 = R 3 from by rw [eR1]; rfl, show R1 4 = R 4 from by rw [eR1]; rfl] at this
        exact this]
      exact h2
  · rw [if_neg hw]
    refine r_cV (as := [.int (nI 1)]) hC (m_goes hzs hM (nI 1)) cs_X8_goes q_1010 q_1012 q_52 (hM.kd) (by decide) rfl dX8_erase_7 rfl rfl ⟨Nat.le_of_ble_eq_true rfl, Nat.le_of_ble_eq_true rfl⟩ (Nat.le_of_ble_eq_true rfl) ⟨Nat.le_of_ble_eq_true rfl, Nat.le_of_ble_eq_true rfl⟩ (fun v7 S7 p7 => ?_) (fun _ x => x.elim)
    obtain ⟨rfl, h1⟩ := p7
    refine r_ifne (tgt := 15) hC dX8_erase_10 (by decide) (fun h10 => ?_) (fun h10 => ?_)
    · exact absurd rfl h10
    · refine r_iconst (v := nI 0) hC dX8_erase_13 (by decide) ?_
      refine r_iret hC hQ rfl dX8_erase_14 (Nat.le_of_ble_eq_true rfl) (Nat.le_of_ble_eq_true rfl) ?_
      refine EM.thr h1 hMC ⟨1, ?_, by decide, rfl⟩ ⟨_, rfl⟩
      unfold oErase
      by_cases hb : ixb b (aNb A) = true
      · rw [if_pos hb, if_neg (fun z => hw ⟨hb, z⟩)]
      · rw [if_neg hb]
end MCalls

