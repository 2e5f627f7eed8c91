/-! ===== piles: the class's steps ===== -/
theorem I_s (S : PS) (f a : Nat) (v : Int32) : pI (sI S f a v) f a = v := u2_s (pI S) f a v
theorem I_f (S : PS) {f g : Nat} (a y : Nat) (v : Int32) (h : g ≠ f) : pI (sI S f a v) g y = pI S g y := u2_f (pI S) a v y h
theorem I_a (S : PS) (f g : Nat) {a y : Nat} (v : Int32) (h : y ≠ a) : pI (sI S f a v) g y = pI S g y := u2_a (pI S) f v g h
theorem R_s (S : PS) (f a : Nat) (v : Option Nat) : pR (sR S f a v) f a = v := u2_s (pR S) f a v
theorem R_f (S : PS) {f g : Nat} (a y : Nat) (v : Option Nat) (h : g ≠ f) : pR (sR S f a v) g y = pR S g y := u2_f (pR S) a v y h
theorem R_a (S : PS) (f g : Nat) {a y : Nat} (v : Option Nat) (h : y ≠ a) : pR (sR S f a v) g y = pR S g y := u2_a (pR S) f v g h
def isPi (S : PS) (p ac ah : Nat) : Prop := KD S p 5 ∧ pR S 160 p = some ac ∧ pR S 161 p = some ah ∧ KD S ac 10 ∧ pN S ac = 64 ∧ KD S ah 10 ∧ pN S ah = 8 ∧ ac ≠ ah
/-- the piles hold what s says -/
def PiR (S : PS) (p ac ah : Nat) (s : PT) : Prop := (∀ x, x < 64 → ∀ c, s.1 x = some c → pA S ac x = nI c) ∧ (∀ i, i < 8 → pA S ah i = nI (s.2.1 i)) ∧ (∀ i, s.2.1 i ≤ 8) ∧
  pI S 162 p = nI s.2.2.1 ∧ pI S 163 p = nI s.2.2.2.1 ∧ pI S 164 p = nI s.2.2.2.2.1 ∧ pI S 165 p = nI s.2.2.2.2.2 ∧ s.2.2.1 + s.2.2.2.2.1 ≤ 8 ∧ s.2.2.2.1 + s.2.2.2.2.2 ≤ 8
abbrev ExP (S S' : PS) (p ac ah : Nat) : Prop := Ex S S' (fun f y => y = p ∧ (f = 162 ∨ f = 163 ∨ f = 164 ∨ f = 165)) (fun _ _ => False) (fun y => y = ac ∨ y = ah) (fun _ => False)
theorem isPi.ex {S S' : PS} {p ac ah : Nat} (h : isPi S p ac ah) (hx : ExP S S' p ac ah) : isPi S' p ac ah := by
  obtain ⟨k1, r1, r2, k2, n2, k3, n3, hne⟩ := h
  exact ⟨hx.kd k1, ((hx p k1.1).2.2.2.2.1 160 (fun z => z)).trans r1, ((hx p k1.1).2.2.2.2.1 161 (fun z => z)).trans r2, hx.kd k2, ((hx ac k2.1).2.2.1).trans n2, hx.kd k3, ((hx ah k3.1).2.2.1).trans n3, hne⟩
section PilesB
variable {l : Launch} {G : GG} {S : PS} {p ac ah : Nat} {s : PT}
set_option maxRecDepth 100000 in
theorem c_pileAt (hl : l.stackTraces = false) (hp : isPi S p ac ah) (hr : PiR S p ac ah s) {r c : Nat} (h1 : r ≤ 64) (h2 : c ≤ 64) :
    MT l G S yX5_pileAt cX5_pileAt 3 (some .int) (rmA 0) [va_rf (some p), .int (nI r), .int (nI c)] (fun v S' => v = some (.int (nI (pil s r c))) ∧ S' = S) (fun _ => False) := by
  obtain ⟨-, -, -, q1, q2, -⟩ := hr
  refine MT_of (by decide +kernel) hl rfl (Nat.le_of_ble_eq_true rfl) (fun Z hC _ hnm hT hQ => ?_)
  change J G Z S 0 0 0 [some (va_rf (some p)), some (.int (nI r)), some (.int (nI c))] []
  refine r_aload_n hC dX5_pileAt_0 rfl rfl ?_
  refine r_getI hC fl_X5_18 rfl dX5_pileAt_1 (hp.1) (q1) ?_
  refine r_iload_n hC dX5_pileAt_4 rfl rfl ?_
  refine r_iadd hC dX5_pileAt_5 ?_
  refine r_iconst (v := nI 4) hC dX5_pileAt_6 (by decide) ?_
  refine r_imul hC dX5_pileAt_7 ?_
  refine r_aload_n hC dX5_pileAt_8 rfl rfl ?_
  refine r_getI hC fl_X5_22 rfl dX5_pileAt_9 (hp.1) (q2) ?_
  refine r_iadd hC dX5_pileAt_12 ?_
  refine r_iload_n hC dX5_pileAt_13 rfl rfl ?_
  refine r_iadd hC dX5_pileAt_14 ?_
  refine r_iret hC hQ rfl dX5_pileAt_15 (Nat.le_of_ble_eq_true rfl) (Nat.le_of_ble_eq_true rfl) ?_
  exact ⟨by rw [nI_add, pk_mul, nI_add, nI_add]; rfl, rfl⟩
set_option maxRecDepth 100000 in
set_option maxHeartbeats 2000000 in
theorem c_turnOnto (hl : l.stackTraces = false) (hp : isPi S p ac ah) (hr : PiR S p ac ah s) {fr on : Nat} (h1 : fr ≤ 100) (h2 : on ≤ 100) (hne : fr ≠ on) :
    MT l G S yX5_turnOnto cX5_turnOnto 6 none (rmA 0) [va_rf (some p), .int (nI fr), .int (nI on)] (fun v S' => v = none ∧ PiR S' p ac ah (simT s fr on) ∧ ExP S S' p ac ah) (fun _ => False) := by
  obtain ⟨kp, rc, rh, kc, nc, kh, nh, hch⟩ := id hp
  obtain ⟨hcs, hhs, h8, q1, q2, q3, q4, b1, b2⟩ := id hr
  refine MT_of (by decide +kernel) hl rfl (Nat.le_of_ble_eq_true rfl) (fun Z hC _ hnm hT hQ => ?_)
  change J G Z S 0 0 0 [some (va_rf (some p)), some (.int (nI fr)), some (.int (nI on)), none, none, none] []
  have out : ∀ L pc, (pc = 20 ∨ pc = 45) → ¬ (fr < 8 ∧ on < 8 ∧ s.2.1 fr + s.2.1 on ≤ 8) → J G Z S 0 0 pc L [] := by
    intro L pc hpc hno
    have hsim : simT s fr on = s := by unfold simT; rw [if_neg hno]
    rcases hpc with rfl | rfl
    · skip
      refine r_vret hC hQ rfl dX5_turnOnto_20 (Nat.le_of_ble_eq_true rfl) (Nat.le_of_ble_eq_true rfl) ?_
      exact ⟨rfl, by rw [hsim]; exact hr, Ex.rf⟩
    · skip
      refine r_vret hC hQ rfl dX5_turnOnto_45 (Nat.le_of_ble_eq_true rfl) (Nat.le_of_ble_eq_true rfl) ?_
      exact ⟨rfl, by rw [hsim]; exact hr, Ex.rf⟩
  have main : fr < 8 → on < 8 → J G Z S 0 0 21 [some (va_rf (some p)), some (.int (nI fr)), some (.int (nI on)), none, none, none] [] := by
    intro hf8 ho8
    refine r_aload_n hC dX5_turnOnto_21 rfl rfl ?_
    refine r_getR  hC fl_X5_15 dX5_turnOnto_22 (kp) (rh) ?_
    refine r_iload_n hC dX5_turnOnto_25 rfl rfl ?_
    refine r_iald hC dX5_turnOnto_26 (kh) (rfl) (by rw [nh]; exact hf8) (by rw [nh]; decide) (hhs fr hf8) ?_
    refine r_istore_n hC dX5_turnOnto_27 rfl (by decide) ?_
    refine r_aload_n hC dX5_turnOnto_28 rfl rfl ?_
    refine r_getR  hC fl_X5_15 dX5_turnOnto_29 (kp) (rh) ?_
    refine r_iload_n hC dX5_turnOnto_32 rfl rfl ?_
    refine r_iald hC dX5_turnOnto_33 (kh) (rfl) (by rw [nh]; exact ho8) (by rw [nh]; decide) (hhs on ho8) ?_
    refine r_istore hC dX5_turnOnto_34 (by decide) ?_
    refine r_iload_n hC dX5_turnOnto_36 rfl rfl ?_
    refine r_iload hC dX5_turnOnto_37 rfl ?_
    refine r_iadd hC dX5_turnOnto_39 ?_
    refine r_bipush (v := nI 8) hC dX5_turnOnto_40 (by decide) ?_
    refine r_icle (tgt := 46) hC dX5_turnOnto_42 (by decide) (fun h42 => ?_) (fun h42 => ?_)
    rotate_left
    · refine out _ 45 (Or.inr rfl) (fun z => h42 ?_)
      rw [nI_add]
      exact nI_le z.2.2 (by decide)
    · have hsum : s.2.1 fr + s.2.1 on ≤ 8 := by
        rw [nI_add] at h42
        exact (nI_leI (by have := h8 fr; have := h8 on; omega) (by decide)).mp h42
      have hsim : simT s fr on = (tC s.1 (s.2.1 fr) (s.2.1 on) fr on, tH s.2.1 fr on, s.2.2) := by unfold simT; rw [if_pos ⟨hf8, ho8, hsum⟩]
      generalize hm : s.2.1 fr = m at *
      generalize hu : s.2.1 on = u at *
      obtain ⟨cI, hcI⟩ : ∃ cI, cI = pA S ac := ⟨_, rfl⟩
      have hkS : ∀ g, KD (sA S ac g) ac 10 ∧ pN (sA S ac g) ac = 64 ∧ pA (sA S ac g) ac = g ∧ KD (sA S ac g) p 5 ∧ pR (sA S ac g) 160 p = some ac := fun g => ⟨kc, nc, A_s _ _ _, kp, rc⟩
      have loop2 : ∀ (d i : Nat) (g : Nat → Int32), i + d = m → (∀ x, x < 64 → g x = if on * 8 ≤ x ∧ x < on * 8 + i then cI (fr * 8 + (m - 1 - (x - on * 8))) else if on * 8 + m ≤ x ∧ x < on * 8 + m + u then cI (x - m) else cI x) →
          J G Z (sA S ac g) 0 0 92 [some (va_rf (some p)), some (.int (nI fr)), some (.int (nI on)), some (.int (nI m)), some (.int (nI u)), some (.int (nI i))] [] := by
        intro d
        induction d with
        | zero =>
          intro i g hi hg
          have hi : i = m := by omega
          subst hi
          refine r_iload hC dX5_turnOnto_92 rfl ?_
          refine r_iload_n hC dX5_turnOnto_94 rfl rfl ?_
          refine r_icge (tgt := 132) hC dX5_turnOnto_95 (by decide) (fun h95 => ?_) (fun h95 => ?_)
          · skip
            refine r_aload_n hC dX5_turnOnto_132 rfl rfl ?_
            refine r_getR  hC fl_X5_15 dX5_turnOnto_133 (kp) (rh) ?_
            refine r_iload_n hC dX5_turnOnto_136 rfl rfl ?_
            refine r_iload_n hC dX5_turnOnto_137 rfl rfl ?_
            refine r_iload hC dX5_turnOnto_138 rfl ?_
            refine r_iadd hC dX5_turnOnto_140 ?_
            refine r_iast hC dX5_turnOnto_141 (kh) (rfl) (show on < pN S ah by rw [nh]; exact ho8) (show pN S ah < 2147483648 by rw [nh]; decide) ?_
            refine r_aload_n hC dX5_turnOnto_142 rfl rfl ?_
            refine r_getR  hC fl_X5_15 dX5_turnOnto_143 (kp) (rh) ?_
            refine r_iload_n hC dX5_turnOnto_146 rfl rfl ?_
            refine r_iconst (v := nI 0) hC dX5_turnOnto_147 (by decide) ?_
            refine r_iast hC dX5_turnOnto_148 (kh) (rfl) (show fr < pN S ah by rw [nh]; exact hf8) (show pN S ah < 2147483648 by rw [nh]; decide) ?_
            refine r_vret hC hQ rfl dX5_turnOnto_149 (Nat.le_of_ble_eq_true rfl) (Nat.le_of_ble_eq_true rfl) ?_
            refine ⟨rfl, ?_, ((Ex.putA (Or.inl rfl)).tA (Or.inl (Or.inr rfl))).tA (Or.inl (Or.inr rfl))⟩
            rw [hsim, sA_sA]
            refine ⟨fun x hx c hc => ?_, fun j hj => ?_, fun j => ?_, q1, q2, q3, q4, b1, b2⟩
            · rw [A_n _ _ hch, A_s, hg x hx]
              simp only [tC] at hc
              split at hc
              · rename_i hh
                rw [if_pos hh, hcI]
                exact hcs _ (by omega) c hc
              · rename_i hh
                rw [if_neg hh]
                split at hc
                · rename_i hh2
                  rw [if_pos hh2, hcI]
                  exact hcs _ (by omega) c hc
                · rename_i hh2
                  rw [if_neg hh2, hcI]
                  exact hcs x hx c hc
            · rw [A_s, A_s, A_n _ _ hch.symm]
              simp only [tH]
              by_cases e1 : j = fr
              · subst e1; rw [upd_self, if_pos rfl]
              · rw [pk_un e1, if_neg e1]
                by_cases e2 : j = on
                · subst e2; rw [upd_self, if_pos rfl, nI_add, hm, hu]
                · rw [pk_un e2, if_neg e2]; exact hhs j hj
            · simp only [tH]
              split
              · omega
              · split
                · rw [hm, hu]; exact hsum
                · exact h8 j
          · exact absurd (nI_le (Nat.le_refl _) (by omega)) h95
        | succ d ih =>
          intro i g hi hg
          refine r_iload hC dX5_turnOnto_92 rfl ?_
          refine r_iload_n hC dX5_turnOnto_94 rfl rfl ?_
          refine r_icge (tgt := 132) hC dX5_turnOnto_95 (by decide) (fun h95 => ?_) (fun h95 => ?_)
          · exact absurd ((nI_leI (by omega) (by omega)).mp h95) (by omega)
          · have e2 : nI fr * nI 8 + nI m - nI 1 - nI i = nI (fr * 8 + (m - 1 - i)) := by
              rw [pk_mul, nI_add, pk_sub (by omega), pk_sub (by omega)]
              congr 1
              omega
            have e1 : nI on * nI 8 + nI i = nI (on * 8 + i) := by rw [pk_mul, nI_add]
            refine r_aload_n hC dX5_turnOnto_98 rfl rfl ?_
            refine r_getR  hC fl_X5_9 dX5_turnOnto_99 (kp) (rc) ?_
            refine r_iload_n hC dX5_turnOnto_102 rfl rfl ?_
            refine r_bipush (v := nI 8) hC dX5_turnOnto_103 (by decide) ?_
            refine r_imul hC dX5_turnOnto_105 ?_
            refine r_iload hC dX5_turnOnto_106 rfl ?_
            refine r_iadd hC dX5_turnOnto_108 ?_
            refine r_aload_n hC dX5_turnOnto_109 rfl rfl ?_
            refine r_getR  hC fl_X5_9 dX5_turnOnto_110 (kp) (rc) ?_
            refine r_iload_n hC dX5_turnOnto_113 rfl rfl ?_
            refine r_bipush (v := nI 8) hC dX5_turnOnto_114 (by decide) ?_
            refine r_imul hC dX5_turnOnto_116 ?_
            refine r_iload_n hC dX5_turnOnto_117 rfl rfl ?_
            refine r_iadd hC dX5_turnOnto_118 ?_
            refine r_iconst (v := nI 1) hC dX5_turnOnto_119 (by decide) ?_
            refine r_isub hC dX5_turnOnto_120 ?_
            refine r_iload hC dX5_turnOnto_121 rfl ?_
            refine r_isub hC dX5_turnOnto_123 ?_
            refine r_iald hC dX5_turnOnto_124 (kc) (e2) (show _ < pN S ac by rw [nc]; omega) (show pN S ac < 2147483648 by rw [nc]; decide) (by rw [A_s]) ?_
            refine r_iast hC dX5_turnOnto_125 (kc) (e1) (show _ < pN S ac by rw [nc]; omega) (show pN S ac < 2147483648 by rw [nc]; decide) ?_
            refine r_iinc hC dX5_turnOnto_126 rfl (ii1 _) ?_
            refine r_goto (tgt := 92) hC dX5_turnOnto_129 (by decide) ?_
            rw [A_s, sA_sA]
            refine ih (i + 1) _ (by omega) (fun x hx => ?_)
            by_cases hxi : x = on * 8 + i
            · subst hxi
              rw [upd_self, if_pos ⟨by omega, by omega⟩, hg _ (by omega), if_neg (by omega), if_neg (by omega)]
              congr 1
              omega
            · rw [pk_un hxi, hg x hx]
              by_cases hh : on * 8 ≤ x ∧ x < on * 8 + i
              · rw [if_pos hh, if_pos ⟨hh.1, by omega⟩]
              · rw [if_neg hh, if_neg (show ¬ (on * 8 ≤ x ∧ x < on * 8 + (i + 1)) by omega)]
      have loop1 : ∀ (i : Nat) (g : Nat → Int32), i ≤ u → (∀ x, x < 64 → g x = if on * 8 + m + i ≤ x ∧ x < on * 8 + m + u then cI (x - m) else cI x) →
          J G Z (sA S ac g) 0 0 52 [some (va_rf (some p)), some (.int (nI fr)), some (.int (nI on)), some (.int (nI m)), some (.int (nI u)), some (.int (nI i - nI 1))] [] := by
        intro i
        induction i with
        | zero =>
          intro g hi hg
          refine r_iload hC dX5_turnOnto_52 rfl ?_
          refine r_iflt (tgt := 89) hC dX5_turnOnto_54 (by decide) (fun h54 => ?_) (fun h54 => ?_)
          · skip
            refine r_iconst (v := nI 0) hC dX5_turnOnto_89 (by decide) ?_
            refine r_istore hC dX5_turnOnto_90 (by decide) ?_
            exact loop2 m 0 g (by omega) (fun x hx => by rw [hg x hx, if_neg (show ¬ (on * 8 ≤ x ∧ x < on * 8 + 0) by omega), Nat.add_zero])
          · exact absurd (by decide) h54
        | succ i ih =>
          intro g hi hg
          have ei : nI (i + 1) - nI 1 = nI i := nI_pred i
          rw [ei]
          refine r_iload hC dX5_turnOnto_52 rfl ?_
          refine r_iflt (tgt := 89) hC dX5_turnOnto_54 (by decide) (fun h54 => ?_) (fun h54 => ?_)
          · exact absurd h54 (nI_pos (by omega))
          · have e1 : nI on * nI 8 + nI m + nI i = nI (on * 8 + m + i) := by rw [pk_mul, nI_add, nI_add]
            have e2 : nI on * nI 8 + nI i = nI (on * 8 + i) := by rw [pk_mul, nI_add]
            refine r_aload_n hC dX5_turnOnto_57 rfl rfl ?_
            refine r_getR  hC fl_X5_9 dX5_turnOnto_58 (kp) (rc) ?_
            refine r_iload_n hC dX5_turnOnto_61 rfl rfl ?_
            refine r_bipush (v := nI 8) hC dX5_turnOnto_62 (by decide) ?_
            refine r_imul hC dX5_turnOnto_64 ?_
            refine r_iload_n hC dX5_turnOnto_65 rfl rfl ?_
            refine r_iadd hC dX5_turnOnto_66 ?_
            refine r_iload hC dX5_turnOnto_67 rfl ?_
            refine r_iadd hC dX5_turnOnto_69 ?_
            refine r_aload_n hC dX5_turnOnto_70 rfl rfl ?_
            refine r_getR  hC fl_X5_9 dX5_turnOnto_71 (kp) (rc) ?_
            refine r_iload_n hC dX5_turnOnto_74 rfl rfl ?_
            refine r_bipush (v := nI 8) hC dX5_turnOnto_75 (by decide) ?_
            refine r_imul hC dX5_turnOnto_77 ?_
            refine r_iload hC dX5_turnOnto_78 rfl ?_
            refine r_iadd hC dX5_turnOnto_80 ?_
            refine r_iald hC dX5_turnOnto_81 (kc) (e2) (show _ < pN S ac by rw [nc]; omega) (show pN S ac < 2147483648 by rw [nc]; decide) (by rw [A_s]) ?_
            refine r_iast hC dX5_turnOnto_82 (kc) (e1) (show _ < pN S ac by rw [nc]; omega) (show pN S ac < 2147483648 by rw [nc]; decide) ?_
            refine r_iinc hC dX5_turnOnto_83 rfl (show nI i + Int32.ofInt (-1) = nI i - nI 1 from by rw [show Int32.ofInt (-1) = -nI 1 by decide]; exact (Int32.sub_eq_add_neg _ _).symm) ?_
            refine r_goto (tgt := 52) hC dX5_turnOnto_86 (by decide) ?_
            rw [A_s, sA_sA]
            refine ih _ (by omega) (fun x hx => ?_)
            by_cases hxi : x = on * 8 + m + i
            · subst hxi
              rw [upd_self, if_pos ⟨by omega, by omega⟩, hg _ (by omega), if_neg (by omega)]
              congr 1
              omega
            · rw [pk_un hxi, hg x hx]
              by_cases hh : on * 8 + m + (i + 1) ≤ x ∧ x < on * 8 + m + u
              · rw [if_pos hh, if_pos ⟨by omega, hh.2⟩]
              · rw [if_neg hh, if_neg (show ¬ (on * 8 + m + i ≤ x ∧ x < on * 8 + m + u) by omega)]
      refine r_iload hC dX5_turnOnto_46 rfl ?_
      refine r_iconst (v := nI 1) hC dX5_turnOnto_48 (by decide) ?_
      refine r_isub hC dX5_turnOnto_49 ?_
      refine r_istore hC dX5_turnOnto_50 (by decide) ?_
      have h := loop1 u (pA S ac) (Nat.le_refl _) (fun x hx => by rw [if_neg (by omega), hcI])
      rw [sA_id S rfl] at h
      exact h
  refine r_iload_n hC dX5_turnOnto_0 rfl rfl ?_
  refine r_iflt (tgt := 20) hC dX5_turnOnto_1 (by decide) (fun h1 => ?_) (fun h1 => ?_)
  · exact absurd h1 (nI_pos (by omega))
  · skip
    refine r_iload_n hC dX5_turnOnto_4 rfl rfl ?_
    refine r_bipush (v := nI 8) hC dX5_turnOnto_5 (by decide) ?_
    refine r_icge (tgt := 20) hC dX5_turnOnto_7 (by decide) (fun h7 => ?_) (fun h7 => ?_)
    · exact out _ 20 (Or.inl rfl) (fun z => absurd ((nI_leI (by omega) (by omega)).mp h7) (by omega))
    · have hf8 : fr < 8 := Nat.lt_of_not_le (fun z => h7 (nI_le z (by omega)))
      refine r_iload_n hC dX5_turnOnto_10 rfl rfl ?_
      refine r_iflt (tgt := 20) hC dX5_turnOnto_11 (by decide) (fun h11 => ?_) (fun h11 => ?_)
      · exact absurd h11 (nI_pos (by omega))
      · skip
        refine r_iload_n hC dX5_turnOnto_14 rfl rfl ?_
        refine r_bipush (v := nI 8) hC dX5_turnOnto_15 (by decide) ?_
        refine r_iclt (tgt := 21) hC dX5_turnOnto_17 (by decide) (fun h17 => ?_) (fun h17 => ?_)
        · exact main hf8 ((nI_ltI (by omega) (by omega)).mp h17)
        · exact out _ 20 (Or.inl rfl) (fun z => h17 (nI_lt z.2.1 (by omega)))
end PilesB

