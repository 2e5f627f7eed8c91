/-! ===== a new model ===== -/
/-- what the constructor has laid: the rows ks, each at its V -/
def MI (S T : PS) (md : Nat) (ks : List Nat) (V : Nat → Nat) (N : Nat → Int32) : Prop :=
  KD T md 8 ∧ Ex S T (fun f y => y = md ∧ 256 ≤ f ∧ f < 288) (fun f y => y = md ∧ 256 ≤ f ∧ f < 288) x0 x0 ∧ (∀ k, k < 24 → pI T (256 + k) md = N k) ∧
  (∀ k, k ∈ ks → pR T (256 + k) md = some (V k) ∧ KD T (V k) (mkd k) ∧ pN T (V k) = mlen k ∧ V k ∉ pL S ∧ V k ≠ md ∧ pA T (V k) = fun _ => 0) ∧ ∀ k k', k ∈ ks → k' ∈ ks → V k = V k' → k = k'
theorem MI.rf {S : PS} {md : Nat} {N : Nat → Int32} (h : KD S md 8) (hN : ∀ k, k < 24 → pI S (256 + k) md = N k) : MI S S md [] (fun _ => 0) N := ⟨h, Ex.rf, hN, fun k hk => absurd hk List.not_mem_nil, fun k _ hk => absurd hk List.not_mem_nil⟩
theorem MI.st {S T : PS} {md : Nat} {ks : List Nat} {V : Nat → Nat} {N : Nat → Int32} (h : MI S T md ks V N) (k kd n f : Nat) (ekd : kd = mkd k) (en : n = mlen k) (ef : f = 256 + k) (hk : k ∉ ks) (h24 : k < 24) {q : Nat} (hq : q ∉ pL T) :
    MI S (sR (sW T q kd n) f md (some q)) md (k :: ks) (fun j => if j = k then q else V j) N := by
  subst ekd en ef
  obtain ⟨h1, h2, h3, h4, h5⟩ := h
  have hqm : q ≠ md := fun e => hq (e ▸ h1.1)
  have hne : ∀ j, j ∈ ks → j ≠ k := fun j hj e => hk (e ▸ hj)
  have hqV : ∀ j, j ∈ ks → V j ≠ q := fun j hj e => hq (e ▸ (h4 j hj).2.1.1)
  refine ⟨kd_sR (kd_sW h1 hq), Ex.tR (h2.tr (Ex.newW hq)) (Or.inl ⟨rfl, by omega, by omega⟩), fun j hj => h3 j hj, fun j hj => ?_, fun j j' hj hj' e => ?_⟩
  · by_cases hz : j = k
    · subst hz
      simp only [if_true]
      exact ⟨R_s _ _ _ _, kd_sR kd_newW, W_N T q (mkd j) (mlen j), fun z => hq (h2 q z).1, hqm, W_A T q (mkd j) (mlen j)⟩
    · have hj' : j ∈ ks := (List.mem_cons.mp hj).resolve_left hz
      obtain ⟨g1, g2, g3, g4, g5, g6⟩ := h4 j hj'
      simp only [if_neg hz]
      exact ⟨(R_f _ _ _ _ (by omega)).trans g1, kd_sR (kd_sW g2 hq), (W_Nn T (mkd k) (mlen k) (hqV j hj')).trans g3, g4, g5, (W_An T (mkd k) (mlen k) (hqV j hj')).trans g6⟩
  · rcases List.mem_cons.mp hj with z | z
    · rcases List.mem_cons.mp hj' with z' | z'
      · rw [z, z']
      · rw [z] at e
        simp only [if_true, if_neg (hne j' z')] at e
        exact absurd e.symm (hqV j' z')
    · rcases List.mem_cons.mp hj' with z' | z'
      · rw [z'] at e
        simp only [if_true, if_neg (hne j z)] at e
        exact absurd e (hqV j z)
      · simp only [if_neg (hne j z), if_neg (hne j' z')] at e
        exact h5 j j' z z' e
theorem MI.sn {S T : PS} {md : Nat} {ks : List Nat} {V : Nat → Nat} {N : Nat → Int32} (h : MI S T md ks V N) (k f : Nat) (ef : f = 256 + k) (h24 : k < 24) (v : Int32) : MI S (sI T f md v) md ks V (uN N k v) := by
  subst ef
  obtain ⟨h1, h2, h3, h4, h5⟩ := h
  refine ⟨kd_sI h1, Ex.tI h2 (Or.inl ⟨rfl, by omega, by omega⟩), fun j hj => ?_, h4, h5⟩
  by_cases hz : j = k
  · rw [hz, uN_s]; exact I_s _ _ _ _
  · rw [uN_n _ _ hz, I_f _ _ _ _ (by omega)]
    exact h3 j hj
theorem MI.mm {S T : PS} {tg : TG} {md : Nat} {ks : List Nat} {V : Nat → Nat} {N : Nat → Int32} (h : MI S T md ks V N) (hk : ∀ k, k < 24 → mR k = true → k ∈ ks) : MM T (tgx S tg (fun _ => 0)) md V N (fun _ _ => 0) := by
  obtain ⟨h1, h2, h3, h4, h5⟩ := h
  have hlt : ∀ k, mR k = true → k < 24 := by
    intro k hk
    refine Classical.byContradiction (fun z => ?_)
    have : mR k = false := by
      unfold mR
      rw [List.getD_eq_getElem?_getD, List.getElem?_eq_none_iff.mpr (by show 24 ≤ k; omega)]
      rfl
    rw [this] at hk
    cases hk
  refine ⟨h1, fun k hr => ?_, fun k k' hr hr' e => h5 k k' (hk k (hlt k hr) hr) (hk k' (hlt k' hr') hr') e, fun k _ h24 => h3 k h24⟩
  obtain ⟨g1, g2, g3, g4, g5, g6⟩ := h4 k (hk k (hlt k hr) hr)
  exact ⟨g1, g2, g3, tgx_n g4, g6⟩
section MInit
variable {l : Launch} {G : GG} {S S0 S' : PS} {tg tg' : TG} {md : Nat}
set_option maxRecDepth 100000 in
set_option maxHeartbeats 4000000 in
theorem m_init (hl : l.stackTraces = false) (km : KD S md 8) (hz : ∀ k, k < 24 → pI S (256 + k) md = 0) :
    MT l G S yX8_init cX8_init 1 none (rm3 4 17 3200) [va_rf (some md)] (fun v S' => v = none ∧ ∃ V N R T, MM S' (tgx S tg (fun _ => 0)) md V N R ∧ MC N R A0 ∧ Ex S T (fun f y => y = md ∧ 256 ≤ f ∧ f < 288) (fun f y => y = md ∧ 256 ≤ f ∧ f < 288) x0 x0 ∧ FrM (tgx S tg (fun _ => 0)) T S') (fun _ => False) := by
  refine MT_of (by decide +kernel) hl rfl (Nat.le_of_ble_eq_true rfl) (fun Z hC hzl hnm hT hQ => ?_)
  change J G Z S 0 0 0 [some (va_rf (some md))] []
  have hzs : (zl Z).stackTraces = false := by rw [hzl]; exact hl
  have i0 : MI S S md [] (fun _ => 0) (fun _ => 0) := MI.rf km hz
  refine r_aload_n hC dX8_init_0 rfl rfl ?_
  refine r_objInit hC q_919 q_104 q_105 dX8_init_1 (Nat.le_of_ble_eq_true rfl) (Nat.le_of_ble_eq_true rfl) ?_
  refine r_aload_n hC dX8_init_4 rfl rfl ?_
  refine r_iconst (v := nI 4) hC dX8_init_5 (by decide) ?_
  refine r_newI hC q_157 (rfl) (by first | decide | omega) dX8_init_6 (Nat.le_of_ble_eq_true rfl) (Nat.le_of_ble_eq_true rfl) (fun q6 hq6 hg6 => ?_)
  refine r_putFR hC hnm fl_X8_7 rfl dX8_init_8 (kd_sW (m := 4) i0.1 hq6) ?_
  have i1 := i0.st 1 10 4 257 rfl rfl rfl (by decide) (by decide) hq6
  generalize sR (sW S q6 10 4) 257 md (some q6) = T1 at i1 ⊢
  refine r_aload_n hC dX8_init_11 rfl rfl ?_
  refine r_bipush (v := nI 32) hC dX8_init_12 (by decide) ?_
  refine r_newI hC q_157 (rfl) (by first | decide | omega) dX8_init_14 (Nat.le_of_ble_eq_true rfl) (Nat.le_of_ble_eq_true rfl) (fun q14 hq14 hg14 => ?_)
  refine r_putFR hC hnm fl_X8_13 rfl dX8_init_16 (kd_sW (m := 32) i1.1 hq14) ?_
  have i2 := i1.st 2 10 32 258 rfl rfl rfl (by decide) (by decide) hq14
  generalize sR (sW T1 q14 10 32) 258 md (some q14) = T2 at i2 ⊢
  refine r_aload_n hC dX8_init_19 rfl rfl ?_
  refine r_bipush (v := nI 32) hC dX8_init_20 (by decide) ?_
  refine r_newI hC q_157 (rfl) (by first | decide | omega) dX8_init_22 (Nat.le_of_ble_eq_true rfl) (Nat.le_of_ble_eq_true rfl) (fun q22 hq22 hg22 => ?_)
  refine r_putFR hC hnm fl_X8_16 rfl dX8_init_24 (kd_sW (m := 32) i2.1 hq22) ?_
  have i3 := i2.st 3 10 32 259 rfl rfl rfl (by decide) (by decide) hq22
  generalize sR (sW T2 q22 10 32) 259 md (some q22) = T3 at i3 ⊢
  refine r_aload_n hC dX8_init_27 rfl rfl ?_
  refine r_bipush (v := nI 32) hC dX8_init_28 (by decide) ?_
  refine r_newI hC q_157 (rfl) (by first | decide | omega) dX8_init_30 (Nat.le_of_ble_eq_true rfl) (Nat.le_of_ble_eq_true rfl) (fun q30 hq30 hg30 => ?_)
  refine r_putFR hC hnm fl_X8_19 rfl dX8_init_32 (kd_sW (m := 32) i3.1 hq30) ?_
  have i4 := i3.st 4 10 32 260 rfl rfl rfl (by decide) (by decide) hq30
  generalize sR (sW T3 q30 10 32) 260 md (some q30) = T4 at i4 ⊢
  refine r_aload_n hC dX8_init_35 rfl rfl ?_
  refine r_iconst (v := nI 5) hC dX8_init_36 (by decide) ?_
  refine r_newI hC q_157 (rfl) (by first | decide | omega) dX8_init_37 (Nat.le_of_ble_eq_true rfl) (Nat.le_of_ble_eq_true rfl) (fun q37 hq37 hg37 => ?_)
  refine r_putFR hC hnm fl_X8_22 rfl dX8_init_39 (kd_sW (m := 5) i4.1 hq37) ?_
  have i5 := i4.st 6 10 5 262 rfl rfl rfl (by decide) (by decide) hq37
  generalize sR (sW T4 q37 10 5) 262 md (some q37) = T5 at i5 ⊢
  refine r_aload_n hC dX8_init_42 rfl rfl ?_
  refine r_iconst (v := nI 5) hC dX8_init_43 (by decide) ?_
  refine r_newI hC q_157 (rfl) (by first | decide | omega) dX8_init_44 (Nat.le_of_ble_eq_true rfl) (Nat.le_of_ble_eq_true rfl) (fun q44 hq44 hg44 => ?_)
  refine r_putFR hC hnm fl_X8_25 rfl dX8_init_46 (kd_sW (m := 5) i5.1 hq44) ?_
  have i6 := i5.st 7 10 5 263 rfl rfl rfl (by decide) (by decide) hq44
  generalize sR (sW T5 q44 10 5) 263 md (some q44) = T6 at i6 ⊢
  refine r_aload_n hC dX8_init_49 rfl rfl ?_
  refine r_bipush (v := nI 15) hC dX8_init_50 (by decide) ?_
  refine r_newI hC q_157 (rfl) (by first | decide | omega) dX8_init_52 (Nat.le_of_ble_eq_true rfl) (Nat.le_of_ble_eq_true rfl) (fun q52 hq52 hg52 => ?_)
  refine r_putFR hC hnm fl_X8_28 rfl dX8_init_54 (kd_sW (m := 15) i6.1 hq52) ?_
  have i7 := i6.st 8 10 15 264 rfl rfl rfl (by decide) (by decide) hq52
  generalize sR (sW T6 q52 10 15) 264 md (some q52) = T7 at i7 ⊢
  refine r_aload_n hC dX8_init_57 rfl rfl ?_
  refine r_sipush (v := nI 645) hC dX8_init_58 (by decide) ?_
  refine r_newI hC q_157 (rfl) (by first | decide | omega) dX8_init_61 (Nat.le_of_ble_eq_true rfl) (Nat.le_of_ble_eq_true rfl) (fun q61 hq61 hg61 => ?_)
  refine r_putFR hC hnm fl_X8_31 rfl dX8_init_63 (kd_sW (m := 645) i7.1 hq61) ?_
  have i8 := i7.st 9 10 645 265 rfl rfl rfl (by decide) (by decide) hq61
  generalize sR (sW T7 q61 10 645) 265 md (some q61) = T8 at i8 ⊢
  refine r_aload_n hC dX8_init_66 rfl rfl ?_
  refine r_sipush (v := nI 645) hC dX8_init_67 (by decide) ?_
  refine r_newI hC q_157 (rfl) (by first | decide | omega) dX8_init_70 (Nat.le_of_ble_eq_true rfl) (Nat.le_of_ble_eq_true rfl) (fun q70 hq70 hg70 => ?_)
  refine r_putFR hC hnm fl_X8_34 rfl dX8_init_72 (kd_sW (m := 645) i8.1 hq70) ?_
  have i9 := i8.st 10 10 645 266 rfl rfl rfl (by decide) (by decide) hq70
  generalize sR (sW T8 q70 10 645) 266 md (some q70) = T9 at i9 ⊢
  refine r_aload_n hC dX8_init_75 rfl rfl ?_
  refine r_sipush (v := nI 645) hC dX8_init_76 (by decide) ?_
  refine r_newI hC q_157 (rfl) (by first | decide | omega) dX8_init_79 (Nat.le_of_ble_eq_true rfl) (Nat.le_of_ble_eq_true rfl) (fun q79 hq79 hg79 => ?_)
  refine r_putFR hC hnm fl_X8_37 rfl dX8_init_81 (kd_sW (m := 645) i9.1 hq79) ?_
  have i10 := i9.st 11 10 645 267 rfl rfl rfl (by decide) (by decide) hq79
  generalize sR (sW T9 q79 10 645) 267 md (some q79) = T10 at i10 ⊢
  refine r_aload_n hC dX8_init_84 rfl rfl ?_
  refine r_iconst (v := nI 3) hC dX8_init_85 (by decide) ?_
  refine r_newI hC q_157 (rfl) (by first | decide | omega) dX8_init_86 (Nat.le_of_ble_eq_true rfl) (Nat.le_of_ble_eq_true rfl) (fun q86 hq86 hg86 => ?_)
  refine r_putFR hC hnm fl_X8_40 rfl dX8_init_88 (kd_sW (m := 3) i10.1 hq86) ?_
  have i11 := i10.st 12 10 3 268 rfl rfl rfl (by decide) (by decide) hq86
  generalize sR (sW T10 q86 10 3) 268 md (some q86) = T11 at i11 ⊢
  refine r_aload_n hC dX8_init_91 rfl rfl ?_
  refine r_bipush (v := nI 8) hC dX8_init_92 (by decide) ?_
  refine r_newI hC q_157 (rfl) (by first | decide | omega) dX8_init_94 (Nat.le_of_ble_eq_true rfl) (Nat.le_of_ble_eq_true rfl) (fun q94 hq94 hg94 => ?_)
  refine r_putFR hC hnm fl_X8_43 rfl dX8_init_96 (kd_sW (m := 8) i11.1 hq94) ?_
  have i12 := i11.st 13 10 8 269 rfl rfl rfl (by decide) (by decide) hq94
  generalize sR (sW T11 q94 10 8) 269 md (some q94) = T12 at i12 ⊢
  refine r_aload_n hC dX8_init_99 rfl rfl ?_
  refine r_sipush (v := nI 400) hC dX8_init_100 (by decide) ?_
  refine r_newI hC q_157 (rfl) (by first | decide | omega) dX8_init_103 (Nat.le_of_ble_eq_true rfl) (Nat.le_of_ble_eq_true rfl) (fun q103 hq103 hg103 => ?_)
  refine r_putFR hC hnm fl_X8_46 rfl dX8_init_105 (kd_sW (m := 400) i12.1 hq103) ?_
  have i13 := i12.st 15 10 400 271 rfl rfl rfl (by decide) (by decide) hq103
  generalize sR (sW T12 q103 10 400) 271 md (some q103) = T13 at i13 ⊢
  refine r_aload_n hC dX8_init_108 rfl rfl ?_
  refine r_bipush (v := nI 50) hC dX8_init_109 (by decide) ?_
  refine r_newZ hC q_1001 (rfl) (by first | decide | omega) dX8_init_111 (Nat.le_of_ble_eq_true rfl) (Nat.le_of_ble_eq_true rfl) (fun q111 hq111 hg111 => ?_)
  refine r_putFR hC hnm fl_X8_49 rfl dX8_init_113 (kd_sW (m := 50) i13.1 hq111) ?_
  have i14 := i13.st 16 11 50 272 rfl rfl rfl (by decide) (by decide) hq111
  generalize sR (sW T13 q111 11 50) 272 md (some q111) = T14 at i14 ⊢
  refine r_aload_n hC dX8_init_116 rfl rfl ?_
  refine r_iconst (v := nI 2) hC dX8_init_117 (by decide) ?_
  refine r_newI hC q_157 (rfl) (by first | decide | omega) dX8_init_118 (Nat.le_of_ble_eq_true rfl) (Nat.le_of_ble_eq_true rfl) (fun q118 hq118 hg118 => ?_)
  refine r_putFR hC hnm fl_X8_53 rfl dX8_init_120 (kd_sW (m := 2) i14.1 hq118) ?_
  have i15 := i14.st 17 10 2 273 rfl rfl rfl (by decide) (by decide) hq118
  generalize sR (sW T14 q118 10 2) 273 md (some q118) = T15 at i15 ⊢
  refine r_aload_n hC dX8_init_123 rfl rfl ?_
  refine r_iconst (v := nI 2) hC dX8_init_124 (by decide) ?_
  refine r_putI hC fl_X8_56 rfl (by decide) dX8_init_125 (i15.1) (fun h => absurd h (by decide)) ?_
  have i15n := i15.sn 18 274 rfl (by decide) (nI 2)
  generalize sI T15 274 md (nI 2) = U0 at i15n ⊢
  refine r_aload_n hC dX8_init_128 rfl rfl ?_
  refine r_iconst (v := nI 5) hC dX8_init_129 (by decide) ?_
  refine r_newI hC q_157 (rfl) (by first | decide | omega) dX8_init_130 (Nat.le_of_ble_eq_true rfl) (Nat.le_of_ble_eq_true rfl) (fun q130 hq130 hg130 => ?_)
  refine r_putFR hC hnm fl_X8_60 rfl dX8_init_132 (kd_sW (m := 5) i15n.1 hq130) ?_
  have i16 := i15n.st 20 10 5 276 rfl rfl rfl (by decide) (by decide) hq130
  generalize sR (sW U0 q130 10 5) 276 md (some q130) = T16 at i16 ⊢
  refine r_aload_n hC dX8_init_135 rfl rfl ?_
  refine r_sipush (v := nI 645) hC dX8_init_136 (by decide) ?_
  refine r_newI hC q_157 (rfl) (by first | decide | omega) dX8_init_139 (Nat.le_of_ble_eq_true rfl) (Nat.le_of_ble_eq_true rfl) (fun q139 hq139 hg139 => ?_)
  refine r_putFR hC hnm fl_X8_63 rfl dX8_init_141 (kd_sW (m := 645) i16.1 hq139) ?_
  have i17 := i16.st 21 10 645 277 rfl rfl rfl (by decide) (by decide) hq139
  generalize sR (sW T16 q139 10 645) 277 md (some q139) = T17 at i17 ⊢
  have h1 := MX.rf (i17.mm (tg := tg) (by decide))
  refine r_aload_n hC dX8_init_144 rfl rfl ?_
  refine r_getR  hC fl_X8_40 dX8_init_145 (h1.1.kd) (h1.1.r 12 rfl) ?_
  refine r_iconst (v := nI 0) hC dX8_init_148 (by decide) ?_
  refine r_iconst (v := nI 1) hC dX8_init_149 (by decide) ?_
  refine r_iast hC dX8_init_150 (h1.1.k 12 rfl) (rfl) (h1.1.lt 12 rfl (by show _ < 3; omega)) (h1.1.b 12 rfl) ?_
  have h2 := h1.su 12 rfl 0 (nI 1)
  refine r_aload_n hC dX8_init_151 rfl rfl ?_
  refine r_getR  hC fl_X8_40 dX8_init_152 (h2.1.kd) (h2.1.r 12 rfl) ?_
  refine r_iconst (v := nI 1) hC dX8_init_155 (by decide) ?_
  refine r_iconst (v := nI 1) hC dX8_init_156 (by decide) ?_
  refine r_iast hC dX8_init_157 (h2.1.k 12 rfl) (rfl) (h2.1.lt 12 rfl (by show _ < 3; omega)) (h2.1.b 12 rfl) ?_
  have h3 := h2.su 12 rfl 1 (nI 1)
  refine r_aload_n hC dX8_init_158 rfl rfl ?_
  refine r_getR  hC fl_X8_40 dX8_init_159 (h3.1.kd) (h3.1.r 12 rfl) ?_
  refine r_iconst (v := nI 2) hC dX8_init_162 (by decide) ?_
  refine r_iconst (v := nI 2) hC dX8_init_163 (by decide) ?_
  refine r_iast hC dX8_init_164 (h3.1.k 12 rfl) (rfl) (h3.1.lt 12 rfl (by show _ < 3; omega)) (h3.1.b 12 rfl) ?_
  have h4 := h3.su 12 rfl 2 (nI 2)
  have hfd : ∀ k, k < 3 → (uR (uR (uR (fun _ _ => 0) 12 (upd ((fun _ _ => 0 : Nat → Nat → Int32) 12) 0 (nI 1))) 12 (upd ((uR (fun _ _ => 0) 12 (upd ((fun _ _ => 0 : Nat → Nat → Int32) 12) 0 (nI 1))) 12) 1 (nI 1))) 12 (upd ((uR (uR (fun _ _ => 0) 12 (upd ((fun _ _ => 0 : Nat → Nat → Int32) 12) 0 (nI 1))) 12 (upd ((uR (fun _ _ => 0) 12 (upd ((fun _ _ => 0 : Nat → Nat → Int32) 12) 0 (nI 1))) 12) 1 (nI 1))) 12) 2 (nI 2))) 12 k = nI (aFd A0 k) := by
    intro k hk
    rcases (show k = 0 ∨ k = 1 ∨ k = 2 by omega) with rfl | rfl | rfl <;> rfl
  refine r_aload_n hC dX8_init_165 rfl rfl ?_
  refine r_cV (as := []) hC (m_laysCells hzs h4.1 (f := aFd A0) VU_A0.2.2.2.2.2.2.2.1 hfd) cs_X8_laysCells q_920 q_922 q_50 (h4.1.kd) (by decide) rfl dX8_init_166 rfl rfl ⟨Nat.le_of_ble_eq_true rfl, Nat.le_of_ble_eq_true rfl⟩ (Nat.le_of_ble_eq_true rfl) ⟨Nat.le_of_ble_eq_true rfl, Nat.le_of_ble_eq_true rfl⟩ (fun v166 S166 p166 => ?_) (fun _ x => x.elim)
  obtain ⟨rfl, h5⟩ := p166
  refine r_vret hC hQ rfl dX8_init_169 (Nat.le_of_ble_eq_true rfl) (Nat.le_of_ble_eq_true rfl) ?_
  have h6 := h4.tr h5
  refine ⟨rfl, _, _, _, _, h6.1, ?_, i17.2.1, h6.2⟩
  refine ⟨⟨rfl, rfl, rfl, rfl, rfl⟩, ⟨fun i hi => absurd hi (Nat.not_lt_zero i), fun i _ _ => rfl⟩, fun o ho => absurd ho (Nat.not_lt_zero o), fun o ho => absurd ho (Nat.not_lt_zero o), ⟨fun k hk => by rcases (show k = 0 ∨ k = 1 ∨ k = 2 by omega) with rfl | rfl | rfl <;> rfl, fun p hp => ?_⟩, fun j hj => absurd hj (Nat.not_lt_zero j), fun k hk => rfl⟩
  exact if_pos hp
end MInit

