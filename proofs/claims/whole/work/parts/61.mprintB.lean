/-! ===== the model prints a sheet; sheets ===== -/
theorem mBk.sm {r1 r2 r3 r4 : Nat → Int32} {A B : AS} (h : sm0 A B) (hb : mBk r1 r2 r3 r4 A) : mBk r1 r2 r3 r4 B := by
  obtain ⟨⟨n0, -⟩, ⟨e1, -⟩, p0, p1, p2⟩ := h
  refine ⟨fun i hi => ?_, fun i hi => hb.2 i (by omega)⟩
  have s1 : aSz B i = aSz A i := by unfold aSz; rw [e1]
  have s2 : aPs B i = aPs A i := by unfold aPs; rw [p0]
  have s3 : aBt B i = aBt A i := by unfold aBt; rw [p1]
  have s4 : aCv B i = aCv A i := by unfold aCv; rw [p2]
  rw [s1, s2, s3, s4]
  exact hb.1 i (by omega)
theorem mOr.sm {r1 r2 r3 : Nat → Int32} {A B : AS} (h : sm0 A B) (hb : mOr r1 r2 r3 A) : mOr r1 r2 r3 B := by
  intro o ho
  rw [h.1.2.1] at ho
  rw [h.ob, h.nc]
  refine ⟨(hb o ho).1, (hb o ho).2.1, fun c hc => ?_⟩
  rw [h.bd]
  exact (hb o ho).2.2 c hc
theorem mFo.sm {r1 r2 : Nat → Int32} {A B : AS} (h : sm0 A B) (hb : mFo r1 r2 A) : mFo r1 r2 B := by
  unfold mFo
  rw [h.fd]
  exact hb
theorem mDu.sm {r1 : Nat → Int32} {A B : AS} (h : sm0 A B) (hb : mDu r1 A) : mDu r1 B := by
  have e := h.2.1.2.2.2.2.2
  intro k hk
  have s1 : aDl B k = aDl A k := by unfold aDl; rw [e]
  rw [s1]
  exact hb k hk
theorem mNm.sm {N : Nat → Int32} {A B : AS} (h : sm0 A B) (hb : mNm N A) : mNm (uN N 14 (nI (aNs B))) B := by
  obtain ⟨⟨n0, n1, n3, n4⟩, -⟩ := h
  obtain ⟨b1, b2, b3, b4, b5⟩ := hb
  refine ⟨?_, ?_, uN_s _ _ _, ?_, ?_⟩
  · rw [n0]; exact b1
  · rw [n1]; exact b2
  · rw [n3]; exact b4
  · rw [n4]; exact b5
theorem MC.pr {N : Nat → Int32} {R : Nat → Nat → Int32} {B A' : AS} {g9 g10 g11 g15 : Nat → Int32} (h : MC N R B) (hs : sameA (newS B) A') (hL : mLv g9 g10 g11 A') (hI : mLi g15 A' (aNs B + 1)) :
    MC (uN N 14 (nI (aNs B + 1))) (uR (uP4 R g9 g10 g11 g15) 16 (upd (R 16) (aNs B) (nI 1))) A' := by
  obtain ⟨hn, hB, hO, hLv, hf, hsh, hd⟩ := h
  have h0 : sm0 B A' := (sm0.nws B).tr (sm0.same hs)
  have ens : aNs A' = aNs B + 1 := by
    have := hs.1 0 (by decide) (by decide) (by decide)
    unfold aNs
    rw [this]
    rfl
  refine ⟨?_, hB.sm h0, hO.sm h0, hL, hf.sm h0, fun j hj => ?_, hd.sm h0⟩
  · rw [← ens]
    exact hn.sm h0
  · rw [ens] at hj
    refine ⟨?_, fun x hx => hI j hj x hx⟩
    have e8 : aWt A' j = aWt (newS B) j := by unfold aWt; rw [hs.1 8 (by decide) (by decide) (by decide)]
    rw [e8]
    show upd (R 16) (aNs B) (nI 1) j = _
    by_cases hz : j = aNs B
    · subst hz
      rw [pk_us, newS_8]
    · have : aWt (newS B) j = aWt B j := by unfold aWt; rw [newS_o (by decide) hz]
      rw [pk_un hz, this]
      exact (hsh j (by omega)).1
section MPrint
variable {l : Launch} {G : GG} {S S0 S' : PS} {tg tg' : TG} {md : Nat} {V : Nat → Nat} {N : Nat → Int32} {R : Nat → Nat → Int32} {A : AS}
set_option maxRecDepth 100000 in
set_option maxHeartbeats 8000000 in
theorem m_printsOne (hl : l.stackTraces = false) {B : AS} {k : Nat} (hM : MM S tg md V N R) (hv : VU A) (hvB : VU B) (hMC : MC N R B) (hs : sm0 A B) (h50 : aNs B < 50) (hk : k < 100) (hN : N 22 = nI (ct (lkW A A) (129 * aNo A))) (hW : WP A (R 21) (129 * aNo A)) (hB : wkA A B k) :
    MT l G S yX8_printsOne cX8_printsOne 6 none (rmA 2) [va_rf (some md), .int (nI (8 * k))] (fun v S' => v = none ∧ ∃ N' R', MX S S' tg md V N' R' ∧ MC N' R' (pr1 B) ∧ N' 22 = N 22 ∧ N' 23 = N 23 ∧ R' 21 = R 21) (fun _ => False) := by
  have hv5 := hv.2.1
  have hct := ct_le (lkW A A) (129 * aNo A)
  have hMC0 := hMC
  obtain ⟨⟨-, hN5, hN14, -, -⟩, hBk, hO, hLv, hFo, hSh, -⟩ := hMC0
  have hsT := fl_inv hs hvB h50 (129 * aNo A) (Nat.le_refl _)
  rw [← pr1_fl hv hs] at hsT
  refine MT_of (by decide +kernel) hl rfl (Nat.le_of_ble_eq_true rfl) (fun Z hC hzl hnm hT hQ => ?_)
  change J G Z S 0 0 0 [some (va_rf (some md)), some (.int (nI (8 * k))), none, none, none, none] []
  have hzs : (zl Z).stackTraces = false := by rw [hzl]; exact hl
  have fin : ∀ (S1 : PS) (g9 g10 g11 g15 : Nat → Int32) (o2 o3 o4 o5 : Option Value), MX S S1 tg md V N (uP4 R g9 g10 g11 g15) → mLv g9 g10 g11 (pr1 B) → mLi g15 (pr1 B) (aNs B + 1) →
      J G Z S1 0 0 151 [some (va_rf (some md)), some (.int (nI (8 * k))), o2, o3, o4, o5] [] := by
    intro S1 g9 g10 g11 g15 o2 o3 o4 o5 h1 h2 h3
    refine r_aload_n hC dX8_printsOne_151 rfl rfl ?_
    refine r_getR  hC fl_X8_49 dX8_printsOne_152 (h1.1.kd) (h1.1.r 16 rfl) ?_
    refine r_aload_n hC dX8_printsOne_155 rfl rfl ?_
    refine r_getI hC fl_X8_143 rfl dX8_printsOne_156 (h1.1.kd) ((h1.1.n 14 rfl).trans hN14) ?_
    refine r_iconst (v := nI 1) hC dX8_printsOne_159 (by decide) ?_
    refine r_zast hC dX8_printsOne_160 (h1.1.k 16 rfl) (rfl) (h1.1.lt 16 rfl (by show _ < 50; omega)) (h1.1.b 16 rfl) (by decide) ?_
    have h4 := h1.su 16 rfl (aNs B) (nI 1)
    refine r_aload_n hC dX8_printsOne_161 rfl rfl ?_
    refine r_dup hC dX8_printsOne_162 rfl ?_
    refine r_getI hC fl_X8_143 rfl dX8_printsOne_163 (h4.1.kd) ((h4.1.n 14 rfl).trans hN14) ?_
    refine r_iconst (v := nI 1) hC dX8_printsOne_166 (by decide) ?_
    refine r_iadd hC dX8_printsOne_167 ?_
    rw [nI_add]
    refine r_putI hC fl_X8_143 rfl (by decide) dX8_printsOne_168 (h4.1.kd) (fun h => absurd h (by decide)) ?_
    refine r_vret hC hQ rfl dX8_printsOne_171 (Nat.le_of_ble_eq_true rfl) (Nat.le_of_ble_eq_true rfl) ?_
    exact ⟨rfl, _, _, h4.sn 14 rfl (nI (aNs B + 1)), hMC.pr hsT.1 h2 h3, rfl, rfl, rfl⟩
  have loop2 : ∀ (d p n : Nat) (S1 : PS) (g9 g10 g11 g15 : Nat → Int32) (o3 o4 o5 : Option Value), p + d = 8 → n ≤ 129 * aNo A → (flS A B n).2 = p → ct (lkW A B) n = p → MX S S1 tg md V N (uP4 R g9 g10 g11 g15) →
      mLv g9 g10 g11 (flS A B n).1 → mLi g15 (flS A B n).1 (aNs B + 1) → J G Z S1 0 0 31 [some (va_rf (some md)), some (.int (nI (8 * k))), some (.int (nI p)), o3, o4, o5] [] := by
    intro d
    induction d with
    | zero =>
      intro p n S1 g9 g10 g11 g15 o3 o4 o5 hp hn hp2 hcn h1 hL hI
      have hp : p = 8 := by omega
      subst hp
      have hsk := fl_skip hs hvB h50 (n := n) (129 * aNo A - n) (by omega) (Or.inl hp2)
      rw [Nat.add_sub_cancel' hn] at hsk
      rw [← hsk, ← pr1_fl hv hs] at hL hI
      refine r_iload_n hC dX8_printsOne_31 rfl rfl ?_
      refine r_bipush (v := nI 8) hC dX8_printsOne_32 (by decide) ?_
      refine r_icge (tgt := 151) hC dX8_printsOne_34 (by decide) (fun h34 => ?_) (fun h34 => ?_)
      · exact fin S1 g9 g10 g11 g15 _ _ _ _ h1 hL hI
      · exact absurd (Int32.le_refl _) h34
    | succ d ih =>
      intro p n S1 g9 g10 g11 g15 o3 o4 o5 hp hn hp2 hcn h1 hL hI
      have hp8 : p < 8 := by omega
      have hM1 := h1.1
      refine r_iload_n hC dX8_printsOne_31 rfl rfl ?_
      refine r_bipush (v := nI 8) hC dX8_printsOne_32 (by decide) ?_
      refine r_icge (tgt := 151) hC dX8_printsOne_34 (by decide) (fun h34 => ?_) (fun h34 => ?_)
      · exact absurd ((nI_leI (by omega) (by omega)).mp h34) (by omega)
      · refine r_iload_n hC dX8_printsOne_37 rfl rfl ?_
        refine r_iload_n hC dX8_printsOne_38 rfl rfl ?_
        refine r_iadd hC dX8_printsOne_39 ?_
        rw [nI_add]
        refine r_aload_n hC dX8_printsOne_40 rfl rfl ?_
        refine r_getI hC fl_X8_128 rfl dX8_printsOne_41 (hM1.kd) ((hM1.n 22 rfl).trans hN) ?_
        refine r_icge (tgt := 151) hC dX8_printsOne_44 (by decide) (fun h44 => ?_) (fun h44 => ?_)
        · have hle := (nI_leI (by omega) (by omega)).mp h44
          have hT := ct_ge hB (129 * aNo A) (Nat.le_refl _)
          have hmn := ct_mn (p := lkW A B) hn
          have hsk := fl_skip hs hvB h50 (n := n) (129 * aNo A - n) (by omega) (Or.inr (by rw [Nat.add_sub_cancel' hn]; omega))
          rw [Nat.add_sub_cancel' hn] at hsk
          rw [← hsk, ← pr1_fl hv hs] at hL hI
          exact fin S1 g9 g10 g11 g15 _ _ _ _ h1 hL hI
        · have hlt : 8 * k + p < ct (lkW A A) (129 * aNo A) := Nat.lt_of_not_le (fun z => h44 (nI_le z (by omega)))
          obtain ⟨m, hm, hlm, hcm⟩ := ct_sur _ _ hlt
          have hlB : lkW A B m = true := (hB m hm).mpr ⟨hlm, by omega⟩
          have hcB : ct (lkW A B) m = p := by rw [ct_ge hB m (by omega), hcm]; omega
          have hle : n ≤ m := Nat.le_of_not_lt (fun w => by have := ct_si hlB w; omega)
          have hsk := fl_skip hs hvB h50 (n := n) (m - n) (by omega) (Or.inr (by rw [Nat.add_sub_cancel' hle, hcB, hcn]))
          rw [Nat.add_sub_cancel' hle] at hsk
          rw [← hsk] at hp2 hL hI
          obtain ⟨i1, i2, i3, i4⟩ := fl_inv hs hvB h50 m (by omega)
          have hls : lkW A (flS A B m).1 m = true := (i4 m hm).mpr ⟨hlB, fun w => absurd w.1 (Nat.lt_irrefl m)⟩
          have hs1 : sm0 B (flS A B m).1 := (sm0.nws B).tr (sm0.same i1)
          have est : flS A B (m + 1) = (lay1 (flS A B m).1 (aNs B) (tnA A (m / 43 / 3)) (m / 43 % 3) (m % 43) p, p + 1) := by
            show fst1 A (aNs B) m (flS A B m) = _
            unfold fst1
            rw [if_pos ⟨by omega, hls⟩, hp2]
          obtain ⟨q1, q2, -⟩ := lkW_iff.mp hlm
          have hg := hW m hm hlm
          rw [hcm] at hg
          unfold lfW at hg
          have hoo := (tn_lt (A := A) (show m / 43 / 3 < aNo A by omega)).1
          obtain ⟨o, eo⟩ : ∃ o, o = tnA A (m / 43 / 3) := ⟨_, rfl⟩
          obtain ⟨c, ec⟩ : ∃ c, c = m / 43 % 3 := ⟨_, rfl⟩
          obtain ⟨f, ef⟩ : ∃ f, f = m % 43 := ⟨_, rfl⟩
          rw [← eo, ← ec, ← ef] at est hg
          rw [← eo] at hoo q1 q2
          rw [← ec] at q1
          rw [← ef] at q2
          have hc3 : c < 3 := by omega
          have hf43 : f < 43 := by omega
          have hlx := LX_lt (o := o) (c := c) (f := f) (by omega) hc3 hf43
          obtain ⟨x1, x2, x3⟩ := LX_o (o := o) hc3 hf43
          have hooB : o < aNo B := by rw [hs.1.2.1]; exact hoo
          have hobB := (hvB.2.2.2.2.2.1 o hooB).1
          have hffB : f < aLen B (aOb B o) := by rw [hs.ob, hs.len]; exact q2
          have hb4 := hvB.1
          have ht : aTr (flS A B m).1 (aNs B) = 0 := by
            unfold aTr
            rw [i1.1 9 (by decide) (by decide) (by decide)]
            exact newS_9
          have ep : posA (flS A B m).1 (aOb (flS A B m).1 o) f = posA B (aOb B o) f := by rw [hs1.ob, hs1.pos]
          have hL2 := hL.lay (o := o) (p := p) hc3 hf43 ht
          rw [ep] at hL2
          have hu8 := (unf_ok hvB.2.2.2.2.2.2.2.1).1 p hp8
          have hI2 := hI.lay (j := aNs B) (o := o) (c := c) (f := f) (p := p) (u := unf (aFd B) p) (by rw [hs1.fd]) hu8
          obtain ⟨u, eu⟩ : ∃ u, u = unf (aFd B) p := ⟨_, rfl⟩
          have hfo := hFo.2 p hp8
          rw [← eu] at hI2 hu8 hfo
          refine r_aload_n hC dX8_printsOne_47 rfl rfl ?_
          refine r_getR  hC fl_X8_63 dX8_printsOne_48 (hM1.kd) (hM1.r 21 rfl) ?_
          refine r_iload_n hC dX8_printsOne_51 rfl rfl ?_
          refine r_iload_n hC dX8_printsOne_52 rfl rfl ?_
          refine r_iadd hC dX8_printsOne_53 ?_
          rw [nI_add]
          refine r_iald hC dX8_printsOne_54 (hM1.k 21 rfl) (rfl) (hM1.lt 21 rfl (by show _ < 645; omega)) (hM1.b 21 rfl) ((congrFun (hM1.a 21 rfl) _).trans (hg)) ?_
          refine r_istore_n hC dX8_printsOne_55 rfl (by decide) ?_
          refine r_iload_n hC dX8_printsOne_56 rfl rfl ?_
          refine r_bipush (v := nI 43) hC dX8_printsOne_57 (by decide) ?_
          refine r_idiv hC dX8_printsOne_59 (by decide) ?_
          rw [pk_div (by omega) (by decide) (by decide)]
          refine r_iconst (v := nI 3) hC dX8_printsOne_60 (by decide) ?_
          refine r_idiv hC dX8_printsOne_61 (by decide) ?_
          rw [pk_div (by omega) (by decide) (by decide), x1]
          refine r_istore hC dX8_printsOne_62 (by decide) ?_
          refine r_iload_n hC dX8_printsOne_64 rfl rfl ?_
          refine r_bipush (v := nI 43) hC dX8_printsOne_65 (by decide) ?_
          refine r_irem hC dX8_printsOne_67 (by decide) ?_
          rw [pk_rem (by omega) (by decide) (by decide), x3]
          refine r_istore hC dX8_printsOne_68 (by decide) ?_
          refine r_aload_n hC dX8_printsOne_70 rfl rfl ?_
          refine r_getR  hC fl_X8_31 dX8_printsOne_71 (hM1.kd) (hM1.r 9 rfl) ?_
          refine r_iload_n hC dX8_printsOne_74 rfl rfl ?_
          refine r_aload_n hC dX8_printsOne_75 rfl rfl ?_
          refine r_aload_n hC dX8_printsOne_76 rfl rfl ?_
          refine r_getR  hC fl_X8_22 dX8_printsOne_77 (hM1.kd) (hM1.r 6 rfl) ?_
          refine r_iload hC dX8_printsOne_80 rfl ?_
          refine r_iald hC dX8_printsOne_82 (hM1.k 6 rfl) (rfl) (hM1.lt 6 rfl (by show _ < 5; omega)) (hM1.b 6 rfl) ((congrFun (hM1.a 6 rfl) _).trans ((hO o hooB).1)) ?_
          refine r_iload hC dX8_printsOne_83 rfl ?_
          refine r_cV (as := [.int (nI (aOb B o)), .int (nI f)]) hC (m_positionOf hzs hM1 hvB hBk hobB hffB) cs_X8_positionOf q_1037 q_1039 q_57 (hM1.kd) (by decide) rfl dX8_printsOne_85 rfl rfl ⟨Nat.le_of_ble_eq_true rfl, Nat.le_of_ble_eq_true rfl⟩ (Nat.le_of_ble_eq_true rfl) ⟨Nat.le_of_ble_eq_true rfl, Nat.le_of_ble_eq_true rfl⟩ (fun v85 S85 p85 => ?_) (fun _ x => x.elim)
          obtain ⟨rfl, e85⟩ := p85
          rw [e85]
          refine r_iast hC dX8_printsOne_88 (hM1.k 9 rfl) (rfl) (hM1.lt 9 rfl (by show _ < 645; exact hlx)) (hM1.b 9 rfl) ?_
          have h2 := h1.su 9 rfl (LX o c f) (posA B (aOb B o) f)
          refine r_aload_n hC dX8_printsOne_89 rfl rfl ?_
          refine r_getR  hC fl_X8_34 dX8_printsOne_90 (h2.1.kd) (h2.1.r 10 rfl) ?_
          refine r_iload_n hC dX8_printsOne_93 rfl rfl ?_
          refine r_aload_n hC dX8_printsOne_94 rfl rfl ?_
          refine r_getI hC fl_X8_143 rfl dX8_printsOne_95 (h2.1.kd) ((h2.1.n 14 rfl).trans hN14) ?_
          refine r_iast hC dX8_printsOne_98 (h2.1.k 10 rfl) (rfl) (h2.1.lt 10 rfl (by show _ < 645; exact hlx)) (h2.1.b 10 rfl) ?_
          have h3 := h2.su 10 rfl (LX o c f) (nI (aNs B))
          refine r_aload_n hC dX8_printsOne_99 rfl rfl ?_
          refine r_getR  hC fl_X8_37 dX8_printsOne_100 (h3.1.kd) (h3.1.r 11 rfl) ?_
          refine r_iload_n hC dX8_printsOne_103 rfl rfl ?_
          refine r_iconst (v := (-1)) hC dX8_printsOne_104 (by decide) ?_
          refine r_iast hC dX8_printsOne_105 (h3.1.k 11 rfl) (rfl) (h3.1.lt 11 rfl (by show _ < 645; exact hlx)) (h3.1.b 11 rfl) ?_
          have h4 := h3.su 11 rfl (LX o c f) (-1)
          refine r_aload_n hC dX8_printsOne_106 rfl rfl ?_
          refine r_getR  hC fl_X8_46 dX8_printsOne_107 (h4.1.kd) (h4.1.r 15 rfl) ?_
          refine r_bipush (v := nI 8) hC dX8_printsOne_110 (by decide) ?_
          refine r_aload_n hC dX8_printsOne_112 rfl rfl ?_
          refine r_getI hC fl_X8_143 rfl dX8_printsOne_113 (h4.1.kd) ((h4.1.n 14 rfl).trans hN14) ?_
          refine r_imul hC dX8_printsOne_116 ?_
          rw [pk_mul]
          refine r_aload_n hC dX8_printsOne_117 rfl rfl ?_
          refine r_getR  hC fl_X8_43 dX8_printsOne_118 (h4.1.kd) (h4.1.r 13 rfl) ?_
          refine r_iload_n hC dX8_printsOne_121 rfl rfl ?_
          refine r_iald hC dX8_printsOne_122 (h4.1.k 13 rfl) (rfl) (h4.1.lt 13 rfl (by show _ < 8; omega)) (h4.1.b 13 rfl) ((congrFun (h4.1.a 13 rfl) _).trans (hfo)) ?_
          refine r_iadd hC dX8_printsOne_123 ?_
          rw [nI_add]
          refine r_sipush (v := nI 10000) hC dX8_printsOne_124 (by decide) ?_
          refine r_iload hC dX8_printsOne_127 rfl ?_
          refine r_imul hC dX8_printsOne_129 ?_
          rw [pk_mul]
          refine r_sipush (v := nI 1000) hC dX8_printsOne_130 (by decide) ?_
          refine r_iload_n hC dX8_printsOne_133 rfl rfl ?_
          refine r_bipush (v := nI 43) hC dX8_printsOne_134 (by decide) ?_
          refine r_idiv hC dX8_printsOne_136 (by decide) ?_
          rw [pk_div (by omega) (by decide) (by decide)]
          refine r_iconst (v := nI 3) hC dX8_printsOne_137 (by decide) ?_
          refine r_irem hC dX8_printsOne_138 (by decide) ?_
          rw [pk_rem (by omega) (by decide) (by decide), x2]
          refine r_imul hC dX8_printsOne_139 ?_
          rw [pk_mul]
          refine r_iadd hC dX8_printsOne_140 ?_
          rw [nI_add]
          refine r_iload hC dX8_printsOne_141 rfl ?_
          refine r_iadd hC dX8_printsOne_143 ?_
          rw [nI_add]
          refine r_iast hC dX8_printsOne_144 (h4.1.k 15 rfl) (rfl) (h4.1.lt 15 rfl (by show _ < 400; omega)) (h4.1.b 15 rfl) ?_
          have h6 := h4.su 15 rfl (8 * aNs B + u) (nI (10000 * o + 1000 * c + f))
          rw [uP4_4] at h6
          refine r_iinc hC dX8_printsOne_145 rfl (ii1 _) ?_
          refine r_goto (tgt := 31) hC dX8_printsOne_148 (by decide) ?_
          refine ih (p + 1) (m + 1) _ _ _ _ _ _ _ _ (by omega) (by omega) (by rw [est]) (by rw [ct_s1 hlB, hcB]) h6 ?_ ?_
          · rw [est]; exact hL2
          · rw [est]; exact hI2
  have loop1 : ∀ (d p : Nat) (S1 : PS), p + d = 8 → MX S S1 tg md V N (uR R 15 (fl1 (R 15) (8 * aNs B) p)) → J G Z S1 0 0 2 [some (va_rf (some md)), some (.int (nI (8 * k))), some (.int (nI p)), none, none, none] [] := by
    intro d
    induction d with
    | zero =>
      intro p S1 hp h1
      have hp : p = 8 := by omega
      subst hp
      refine r_iload_n hC dX8_printsOne_2 rfl rfl ?_
      refine r_bipush (v := nI 8) hC dX8_printsOne_3 (by decide) ?_
      refine r_icge (tgt := 29) hC dX8_printsOne_5 (by decide) (fun h5 => ?_) (fun h5 => ?_)
      · refine r_iconst (v := nI 0) hC dX8_printsOne_29 (by decide) ?_
        refine r_istore_n hC dX8_printsOne_30 rfl (by decide) ?_
        rw [← uP4_id] at h1
        refine loop2 8 0 0 S1 _ _ _ _ _ _ _ rfl (by omega) rfl rfl h1 (hLv.nws hvB) (fun j hj x hx => ?_)
        show fl1 (R 15) (8 * aNs B) 8 (8 * j + x) = trV (aLi (newS B) j x)
        by_cases hz : j = aNs B
        · subst hz
          rw [fl1_t (by omega) (by omega), newS_11]
          rfl
        · have e11 : aLi (newS B) j x = aLi B j x := by unfold aLi; rw [newS_o (by decide) hz]
          rw [fl1_f (by omega), e11]
          exact (hSh j (by omega)).2 x hx
      · exact absurd (Int32.le_refl _) h5
    | succ d ih =>
      intro p S1 hp h1
      refine r_iload_n hC dX8_printsOne_2 rfl rfl ?_
      refine r_bipush (v := nI 8) hC dX8_printsOne_3 (by decide) ?_
      refine r_icge (tgt := 29) hC dX8_printsOne_5 (by decide) (fun h5 => ?_) (fun h5 => ?_)
      · exact absurd ((nI_leI (by omega) (by omega)).mp h5) (by omega)
      · refine r_aload_n hC dX8_printsOne_8 rfl rfl ?_
        refine r_getR  hC fl_X8_46 dX8_printsOne_9 (h1.1.kd) (h1.1.r 15 rfl) ?_
        refine r_bipush (v := nI 8) hC dX8_printsOne_12 (by decide) ?_
        refine r_aload_n hC dX8_printsOne_14 rfl rfl ?_
        refine r_getI hC fl_X8_143 rfl dX8_printsOne_15 (h1.1.kd) ((h1.1.n 14 rfl).trans hN14) ?_
        refine r_imul hC dX8_printsOne_18 ?_
        rw [pk_mul]
        refine r_iload_n hC dX8_printsOne_19 rfl rfl ?_
        refine r_iadd hC dX8_printsOne_20 ?_
        rw [nI_add]
        refine r_iconst (v := (-1)) hC dX8_printsOne_21 (by decide) ?_
        refine r_iast hC dX8_printsOne_22 (h1.1.k 15 rfl) (rfl) (h1.1.lt 15 rfl (by show _ < 400; omega)) (h1.1.b 15 rfl) ?_
        have h2 := h1.su 15 rfl (8 * aNs B + p) (-1)
        rw [uR_uR] at h2
        refine r_iinc hC dX8_printsOne_23 rfl (ii1 _) ?_
        refine r_goto (tgt := 2) hC dX8_printsOne_26 (by decide) ?_
        refine ih (p + 1) _ (by omega) ?_
        rw [← fl1_s]
        exact h2
  refine r_iconst (v := nI 0) hC dX8_printsOne_0 (by decide) ?_
  refine r_istore_n hC dX8_printsOne_1 rfl (by decide) ?_
  refine loop1 8 0 S rfl ?_
  rw [fl1_0, uR_id rfl]
  exact MX.rf hM
set_option maxRecDepth 100000 in
set_option maxHeartbeats 4000000 in
theorem m_print (hl : l.stackTraces = false) (hM : MM S tg md V N R) (hv : VU A) (hMC : MC N R A) (x : Int32) :
    MT l G S yX8_print cX8_print 5 (some .int) (rmA 4) [va_rf (some md), .int x] (EM S tg md V (oPrint A x)) (fun _ => False) := by
  have hv5 := hv.2.1
  refine MT_of (by decide +kernel) hl rfl (Nat.le_of_ble_eq_true rfl) (fun Z hC hzl hnm hT hQ => ?_)
  change J G Z S 0 0 0 [some (va_rf (some md)), some (.int x), none, none, none] []
  have hzs : (zl Z).stackTraces = false := by rw [hzl]; exact hl
  refine r_aload_n hC dX8_print_0 rfl rfl ?_
  refine r_iload_n hC dX8_print_1 rfl rfl ?_
  refine r_iconst (v := nI 1) hC dX8_print_2 (by decide) ?_
  refine r_bipush (v := nI 10) hC dX8_print_3 (by decide) ?_
  refine r_cS (as := [.int x, .int (nI 1), .int (nI 10)]) hC (m_isIn hzs x (nI 1) (nI 10)) cs_X8_isIn q_1022 q_1023 dX8_print_5 rfl rfl ⟨Nat.le_of_ble_eq_true rfl, Nat.le_of_ble_eq_true rfl⟩ (Nat.le_of_ble_eq_true rfl) ⟨Nat.le_of_ble_eq_true rfl, Nat.le_of_ble_eq_true rfl⟩ (fun v5 S5 p5 => ?_) (fun _ x => x.elim)
  obtain ⟨rfl, e5⟩ := p5
  rw [e5]
  change J G Z _ _ _ _ _ [.int (bI (rgb x 1 10)), _]
  cases hx : rgb x 1 10 with
  | false =>
    refine r_ifeq (tgt := 15) hC dX8_print_8 (by decide) (fun h8 => ?_) (fun h8 => ?_)
    · refine r_iconst (v := nI 1) hC dX8_print_15 (by decide) ?_
      refine r_cV (as := [.int (nI 1)]) hC (m_goes hzs hM (nI 1)) cs_X8_goes q_1010 q_1012 q_52 (hM.kd) (by decide) rfl dX8_print_16 rfl rfl ⟨Nat.le_of_ble_eq_true rfl, Nat.le_of_ble_eq_true rfl⟩ (Nat.le_of_ble_eq_true rfl) ⟨Nat.le_of_ble_eq_true rfl, Nat.le_of_ble_eq_true rfl⟩ (fun v16 S16 p16 => ?_) (fun _ x => x.elim)
      obtain ⟨rfl, h1⟩ := p16
      refine r_ifne (tgt := 24) hC dX8_print_19 (by decide) (fun h19 => ?_) (fun h19 => ?_)
      · exact absurd (by decide) h19
      · refine r_iconst (v := nI 0) hC dX8_print_22 (by decide) ?_
        refine r_iret hC hQ rfl dX8_print_23 (Nat.le_of_ble_eq_true rfl) (Nat.le_of_ble_eq_true rfl) ?_
        exact EM.thr h1 hMC ⟨1, by unfold oPrint; rw [if_neg (by rw [hx]; decide)], by decide, rfl⟩ ⟨_, rfl⟩
    · exact absurd rfl h8
  | true =>
    obtain ⟨r1, r2⟩ := of_decide_eq_true hx
    obtain ⟨n, hn10, rfl⟩ := rgb_n (by decide) (Int32.le_trans (by decide) r1) r2
    refine r_ifeq (tgt := 15) hC dX8_print_8 (by decide) (fun h8 => ?_) (fun h8 => ?_)
    · exact absurd h8 (by decide)
    · refine r_iconst (v := nI 0) hC dX8_print_11 (by decide) ?_
      refine r_goto (tgt := 16) hC dX8_print_12 (by decide) ?_
      refine r_cV (as := [.int (nI 0)]) hC (m_goes hzs hM (nI 0)) cs_X8_goes q_1010 q_1012 q_52 (hM.kd) (by decide) rfl dX8_print_16 rfl rfl ⟨Nat.le_of_ble_eq_true rfl, Nat.le_of_ble_eq_true rfl⟩ (Nat.le_of_ble_eq_true rfl) ⟨Nat.le_of_ble_eq_true rfl, Nat.le_of_ble_eq_true rfl⟩ (fun v16 S16 p16 => ?_) (fun _ x => x.elim)
      obtain ⟨rfl, h1⟩ := p16
      refine r_ifne (tgt := 24) hC dX8_print_19 (by decide) (fun h19 => ?_) (fun h19 => ?_)
      rotate_left
      · exact absurd h19 (by decide)
      · skip
        refine r_aload_n hC dX8_print_24 rfl rfl ?_
        refine r_cV (as := []) hC (m_laysWanted hzs h1.1 hv (hMC.n23 _)) cs_X8_laysWanted q_1083 q_1085 q_61 (h1.1.kd) (by decide) rfl dX8_print_25 rfl rfl ⟨Nat.le_of_ble_eq_true rfl, Nat.le_of_ble_eq_true rfl⟩ (Nat.le_of_ble_eq_true rfl) ⟨Nat.le_of_ble_eq_true rfl, Nat.le_of_ble_eq_true rfl⟩ (fun v25 S25 p25 => ?_) (fun _ x => x.elim)
        obtain ⟨rfl, g20, g, h2, hw⟩ := p25
        have hct := ct_le (lkW A A) (129 * aNo A)
        have hall := lkW_all hv
        obtain ⟨nn, en⟩ : ∃ nn, nn = ct (lkW A A) (129 * aNo A) := ⟨_, rfl⟩
        rw [← en] at h2 hct hall
        have h3 := h1.tr h2
        have hM2 := h3.1
        have epr : prN A n = if (nn + 7) / 8 < n then (nn + 7) / 8 else n := by unfold prN; rw [← hall]
        obtain ⟨pn, epn⟩ : ∃ pn, pn = prN A n := ⟨_, rfl⟩
        have hp10 : pn ≤ 10 := by
          rw [epn, epr]
          split <;> omega
        have hns := hv.2.2.1
        have tail : ∀ o2, J G Z S25 0 0 51 [some (va_rf (some md)), some (.int (nI n)), o2, none, none] [.int (nI pn)] := by
          intro o2
          refine r_istore_n hC dX8_print_51 rfl (by decide) ?_
          refine r_aload_n hC dX8_print_52 rfl rfl ?_
          refine r_aload_n hC dX8_print_53 rfl rfl ?_
          refine r_getI hC fl_X8_143 rfl dX8_print_54 (hM2.kd) ((hM2.n 14 rfl).trans hMC.1.2.2.1) ?_
          refine r_iload_n hC dX8_print_57 rfl rfl ?_
          refine r_iadd hC dX8_print_58 ?_
          rw [nI_add]
          refine r_bipush (v := nI 50) hC dX8_print_59 (by decide) ?_
          refine r_icle (tgt := 68) hC dX8_print_61 (by decide) (fun h61 => ?_) (fun h61 => ?_)
          · have hle := (nI_leI (by omega) (by omega)).mp h61
            have e : oPrint A (nI n) = (0, nI pn, prI A pn) := by
              rw [epn] at hle ⊢
              unfold oPrint
              rw [if_pos hx, ii_n (by omega), if_neg (by omega)]
            refine r_iconst (v := nI 0) hC dX8_print_68 (by decide) ?_
            refine r_cV (as := [.int (nI 0)]) hC (m_goes hzs hM2 (nI 0)) cs_X8_goes q_1010 q_1012 q_52 (hM2.kd) (by decide) rfl dX8_print_69 rfl rfl ⟨Nat.le_of_ble_eq_true rfl, Nat.le_of_ble_eq_true rfl⟩ (Nat.le_of_ble_eq_true rfl) ⟨Nat.le_of_ble_eq_true rfl, Nat.le_of_ble_eq_true rfl⟩ (fun v69 S69 p69 => ?_) (fun _ x => x.elim)
            obtain ⟨rfl, h4⟩ := p69
            have loop : ∀ (d i : Nat) (S1 : PS) (N1 : Nat → Int32) (R1 : Nat → Nat → Int32), i + d = pn → MX S S1 tg md V N1 R1 → MC N1 R1 (prI A i) → N1 22 = nI nn → N1 23 = nI 0 → R1 21 = g →
                J G Z S1 0 0 80 [some (va_rf (some md)), some (.int (nI n)), o2, some (.int (nI pn)), some (.int (nI i))] [] := by
              intro d
              induction d with
              | zero =>
                intro i S1 N1 R1 hi h5 hC5 n22 n23 r21
                have hi : i = pn := by omega
                subst hi
                refine r_iload hC dX8_print_80 rfl ?_
                refine r_iload_n hC dX8_print_82 rfl rfl ?_
                refine r_icge (tgt := 101) hC dX8_print_83 (by decide) (fun h83 => ?_) (fun h83 => ?_)
                · refine r_iload_n hC dX8_print_101 rfl rfl ?_
                  refine r_iret hC hQ rfl dX8_print_102 (Nat.le_of_ble_eq_true rfl) (Nat.le_of_ble_eq_true rfl) ?_
                  rw [e]
                  exact EM.ok h5 hC5 n23 rfl rfl
                · exact absurd (Int32.le_refl _) h83
              | succ d ih =>
                intro i S1 N1 R1 hi h5 hC5 n22 n23 r21
                obtain ⟨j1, j2, j3, j4⟩ := prI_inv hv i (by omega)
                refine r_iload hC dX8_print_80 rfl ?_
                refine r_iload_n hC dX8_print_82 rfl rfl ?_
                refine r_icge (tgt := 101) hC dX8_print_83 (by decide) (fun h83 => ?_) (fun h83 => ?_)
                · exact absurd ((nI_leI (by omega) (by omega)).mp h83) (by omega)
                · refine r_aload_n hC dX8_print_86 rfl rfl ?_
                  refine r_bipush (v := nI 8) hC dX8_print_87 (by decide) ?_
                  refine r_iload hC dX8_print_89 rfl ?_
                  refine r_imul hC dX8_print_91 ?_
                  rw [pk_mul]
                  refine r_cV (as := [.int (nI (8 * i))]) hC (m_printsOne hzs h5.1 hv j2 hC5 j1 (by omega) (by omega) (by rw [n22, en]) (by rw [r21]; exact hw) j4) cs_X8_printsOne q_1119 q_1121 q_65 (h5.1.kd) (by decide) rfl dX8_print_92 rfl rfl ⟨Nat.le_of_ble_eq_true rfl, Nat.le_of_ble_eq_true rfl⟩ (Nat.le_of_ble_eq_true rfl) ⟨Nat.le_of_ble_eq_true rfl, Nat.le_of_ble_eq_true rfl⟩ (fun v92 S92 p92 => ?_) (fun _ x => x.elim)
                  obtain ⟨rfl, N2, R2, m1, m2, m3, m4, m5⟩ := p92
                  refine r_iinc hC dX8_print_95 rfl (ii1 _) ?_
                  refine r_goto (tgt := 80) hC dX8_print_98 (by decide) ?_
                  exact ih (i + 1) _ N2 R2 (by omega) (h5.tr m1) m2 (m3.trans n22) (m4.trans n23) (m5.trans r21)
            refine r_ifne (tgt := 77) hC dX8_print_72 (by decide) (fun h72 => ?_) (fun h72 => ?_)
            · refine r_iconst (v := nI 0) hC dX8_print_77 (by decide) ?_
              refine r_istore hC dX8_print_78 (by decide) ?_
              exact loop pn 0 _ _ _ (by omega) (h3.tr h4) hMC rfl rfl rfl
            · exact absurd h72 (by decide)
          · have hgt : 50 < aNs A + pn := Nat.lt_of_not_le (fun z => h61 (nI_le z (by omega)))
            have e : oPrint A (nI n) = (2, 0, A) := by
              rw [epn] at hgt
              unfold oPrint
              rw [if_pos hx, ii_n (by omega), if_pos hgt]
            refine r_iconst (v := nI 2) hC dX8_print_64 (by decide) ?_
            refine r_goto (tgt := 69) hC dX8_print_65 (by decide) ?_
            refine r_cV (as := [.int (nI 2)]) hC (m_goes hzs hM2 (nI 2)) cs_X8_goes q_1010 q_1012 q_52 (hM2.kd) (by decide) rfl dX8_print_69 rfl rfl ⟨Nat.le_of_ble_eq_true rfl, Nat.le_of_ble_eq_true rfl⟩ (Nat.le_of_ble_eq_true rfl) ⟨Nat.le_of_ble_eq_true rfl, Nat.le_of_ble_eq_true rfl⟩ (fun v69 S69 p69 => ?_) (fun _ x => x.elim)
            obtain ⟨rfl, h4⟩ := p69
            refine r_ifne (tgt := 77) hC dX8_print_72 (by decide) (fun h72 => ?_) (fun h72 => ?_)
            · exact absurd (by decide) h72
            · refine r_iconst (v := nI 0) hC dX8_print_75 (by decide) ?_
              refine r_iret hC hQ rfl dX8_print_76 (Nat.le_of_ble_eq_true rfl) (Nat.le_of_ble_eq_true rfl) ?_
              exact EM.thr (A := A) (h3.tr h4) hMC ⟨2, e, by decide, rfl⟩ ⟨_, rfl⟩
        refine r_aload_n hC dX8_print_28 rfl rfl ?_
        refine r_getI hC fl_X8_128 rfl dX8_print_29 (hM2.kd) ((hM2.n 22 rfl).trans (uN_s _ _ _)) ?_
        refine r_bipush (v := nI 8) hC dX8_print_32 (by decide) ?_
        refine r_iadd hC dX8_print_34 ?_
        rw [nI_add]
        refine r_iconst (v := nI 1) hC dX8_print_35 (by decide) ?_
        refine r_isub hC dX8_print_36 ?_
        rw [pk_sub (by omega)]
        refine r_bipush (v := nI 8) hC dX8_print_37 (by decide) ?_
        refine r_idiv hC dX8_print_39 (by decide) ?_
        rw [pk_div (by omega) (by decide) (by decide), show (nn + 8 - 1) / 8 = (nn + 7) / 8 from rfl]
        refine r_istore_n hC dX8_print_40 rfl (by decide) ?_
        refine r_iload_n hC dX8_print_41 rfl rfl ?_
        refine r_iload_n hC dX8_print_42 rfl rfl ?_
        refine r_icge (tgt := 50) hC dX8_print_43 (by decide) (fun h43 => ?_) (fun h43 => ?_)
        · have hge := (nI_leI (by omega) (by omega)).mp h43
          refine r_iload_n hC dX8_print_50 rfl rfl ?_
          have := tail (some (.int (nI ((nn + 7) / 8))))
          rw [epn, epr, if_neg (by omega)] at this
          exact this
        · have hlt : (nn + 7) / 8 < n := Nat.lt_of_not_le (fun z => h43 (nI_le z (by omega)))
          refine r_iload_n hC dX8_print_46 rfl rfl ?_
          refine r_goto (tgt := 51) hC dX8_print_47 (by decide) ?_
          have := tail (some (.int (nI ((nn + 7) / 8))))
          rw [epn, epr, if_pos hlt] at this
          exact this
end MPrint

