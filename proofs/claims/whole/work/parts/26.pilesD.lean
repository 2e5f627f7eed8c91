/-! ===== piles: upright, all folds, what lies where ===== -/
section PilesD
variable {l : Launch} {G : GG} {S : PS} {p ac ah : Nat} {s : PT}
set_option maxRecDepth 100000 in
set_option maxHeartbeats 2000000 in
theorem c_foldUpright (hl : l.stackTraces = false) (hp : isPi S p ac ah) (hr : PiR S p ac ah s) (st : Bool) :
    MT l G S yX5_foldUpright cX5_foldUpright 7 none (rmA 1) [va_rf (some p), .int (bI st)] (fun v S' => v = none ∧ PiR S' p ac ah (upS s st) ∧ ExP S S' p ac ah) (fun _ => False) := by
  obtain ⟨-, -, -, q1, q2, q3, q4, b1, b2⟩ := id hr
  refine MT_of (by decide +kernel) hl (by cases st <;> rfl) (Nat.le_of_ble_eq_true rfl) (fun Z hC hzl hnm hT hQ => ?_)
  change J G Z S 0 0 0 [some (va_rf (some p)), some (.int (bI st)), none, none, none, none, none] []
  have hzs : (zl Z).stackTraces = false := by rw [hzl]; exact hl
  obtain ⟨rows, hR⟩ : ∃ x, s.2.2.2.2.1 = x := ⟨_, rfl⟩
  obtain ⟨cols, hCo⟩ : ∃ x, s.2.2.2.2.2 = x := ⟨_, rfl⟩
  rw [hR] at q3 b1
  rw [hCo] at q4 b2
  have outer : ∀ (d r : Nat) (S1 : PS) (o4 o5 o6 : Option Value), r + d = rows / 2 → PiR S1 p ac ah (upR s st r) → ExP S S1 p ac ah → J G Z S1 0 0 9 [some (va_rf (some p)), some (.int (bI st)), some (.int (nI (rows / 2))), some (.int (nI r)), o4, o5, o6] [] := by
    intro d
    induction d with
    | zero =>
      intro r S1 o4 o5 o6 hi hr1 hx
      have hi : r = rows / 2 := by omega
      subst hi
      have e2 := upR_2 s st (rows / 2)
      have hp1 := hp.ex hx
      obtain ⟨w1, w2, w3, v1, v2, v3, v4, -⟩ := id hr1
      rw [e2] at v1 v2 v3 v4
      rw [hR] at v3
      rw [hCo] at v4
      refine r_iload_n hC dX5_foldUpright_9 rfl rfl ?_
      refine r_iload_n hC dX5_foldUpright_10 rfl rfl ?_
      refine r_icge (tgt := 89) hC dX5_foldUpright_11 (by decide) (fun h11 => ?_) (fun h11 => ?_)
      · have fin : ∀ x : Nat, x = (if st then 0 else rows / 2) → J G Z S1 0 0 103 [some (va_rf (some p)), some (.int (bI st)), some (.int (nI (rows / 2))), some (.int (nI (rows / 2))), o4, o5, o6] [.int (nI x), .int (nI s.2.2.1), va_rf (some p)] := by
          intro x hxe
          refine r_iadd hC dX5_foldUpright_103 ?_
          refine r_putI hC fl_X5_18 rfl (by decide) dX5_foldUpright_104 (hp1.1) (fun h => absurd h (by decide)) ?_
          refine r_aload_n hC dX5_foldUpright_107 rfl rfl ?_
          refine r_iload_n hC dX5_foldUpright_108 rfl rfl ?_
          refine r_putI hC fl_X5_25 rfl (by decide) dX5_foldUpright_109 (hp1.1) (fun h => absurd h (by decide)) ?_
          refine r_vret hC hQ rfl dX5_foldUpright_112 (Nat.le_of_ble_eq_true rfl) (Nat.le_of_ble_eq_true rfl) ?_
          rw [nI_add]
          have eS : upS s st = ((upR s st (rows / 2)).1, (upR s st (rows / 2)).2.1, s.2.2.1 + x, s.2.2.2.1, rows / 2, s.2.2.2.2.2) := by
            unfold upS
            rw [hR, hxe]
          rw [eS]
          refine ⟨rfl, ⟨w1, w2, w3, ?_, ?_, I_s _ _ _ _, ?_, ?_, ?_⟩, (hx.tI (Or.inl ⟨rfl, Or.inl rfl⟩)).tI (Or.inl ⟨rfl, Or.inr (Or.inr (Or.inl rfl))⟩)⟩
          · rw [I_f _ _ _ _ (by decide), I_s]
          · rw [I_f _ _ _ _ (by decide), I_f _ _ _ _ (by decide)]; exact v2
          · rw [I_f _ _ _ _ (by decide), I_f _ _ _ _ (by decide), hCo]; exact v4
          · show s.2.2.1 + x + rows / 2 ≤ 8
            rw [hxe]
            split <;> omega
          · show s.2.2.2.1 + s.2.2.2.2.2 ≤ 8
            rw [hCo]; exact b2
        refine r_aload_n hC dX5_foldUpright_89 rfl rfl ?_
        refine r_dup hC dX5_foldUpright_90 rfl ?_
        refine r_getI hC fl_X5_18 rfl dX5_foldUpright_91 (hp1.1) (v1) ?_
        refine r_iload_n hC dX5_foldUpright_94 rfl rfl ?_
        refine r_ifeq (tgt := 102) hC dX5_foldUpright_95 (by decide) (fun h95 => ?_) (fun h95 => ?_)
        · cases st with
          | true => exact absurd h95 (by decide)
          | false =>
            refine r_iload_n hC dX5_foldUpright_102 rfl rfl ?_
            exact fin _ rfl
        · cases st with
          | false => exact absurd rfl h95
          | true =>
            refine r_iconst (v := nI 0) hC dX5_foldUpright_98 (by decide) ?_
            refine r_goto (tgt := 103) hC dX5_foldUpright_99 (by decide) ?_
            exact fin 0 rfl
      · exact absurd (nI_le (Nat.le_refl _) (by omega)) h11
    | succ d ih =>
      intro r S1 o4 o5 o6 hi hr1 hx
      have hrr : r < rows / 2 := by omega
      have inner : ∀ (d2 k : Nat) (S2 : PS) (o5 o6 : Option Value), k + d2 = cols → PiR S2 p ac ah (upC (upR s st r) st r k) → ExP S S2 p ac ah → J G Z S2 0 0 17 [some (va_rf (some p)), some (.int (bI st)), some (.int (nI (rows / 2))), some (.int (nI r)), some (.int (nI k)), o5, o6] [] := by
        intro d2
        induction d2 with
        | zero =>
          intro k S2 o5 o6 hk hr2 hx2
          have hk : k = cols := by omega
          subst hk
          have hp2 := hp.ex hx2
          have e2 : (upC (upR s st r) st r k).2.2 = s.2.2 := (upC_2 _ _ _ _).trans (upR_2 _ _ _)
          obtain ⟨-, -, -, v1, v2, v3, v4, -⟩ := id hr2
          rw [e2] at v1 v2 v3 v4
          rw [hCo] at v4
          refine r_iload hC dX5_foldUpright_17 rfl ?_
          refine r_aload_n hC dX5_foldUpright_19 rfl rfl ?_
          refine r_getI hC fl_X5_28 rfl dX5_foldUpright_20 (hp2.1) (v4) ?_
          refine r_icge (tgt := 83) hC dX5_foldUpright_23 (by decide) (fun h23 => ?_) (fun h23 => ?_)
          · skip
            refine r_iinc hC dX5_foldUpright_83 rfl (ii1 _) ?_
            refine r_goto (tgt := 9) hC dX5_foldUpright_86 (by decide) ?_
            refine ih (r + 1) S2 _ _ _ (by omega) ?_ hx2
            simp only [upR]
            rw [hCo]
            exact hr2
          · exact absurd (nI_le (Nat.le_refl _) (by omega)) h23
        | succ d2 ih2 =>
          intro k S2 o5 o6 hk hr2 hx2
          have hp2 := hp.ex hx2
          have e2 : (upC (upR s st r) st r k).2.2 = s.2.2 := (upC_2 _ _ _ _).trans (upR_2 _ _ _)
          obtain ⟨-, -, -, v1, v2, v3, v4, -⟩ := id hr2
          rw [e2] at v1 v2 v3 v4
          rw [hCo] at v4
          rw [hR] at v3
          refine r_iload hC dX5_foldUpright_17 rfl ?_
          refine r_aload_n hC dX5_foldUpright_19 rfl rfl ?_
          refine r_getI hC fl_X5_28 rfl dX5_foldUpright_20 (hp2.1) (v4) ?_
          refine r_icge (tgt := 83) hC dX5_foldUpright_23 (by decide) (fun h23 => ?_) (fun h23 => ?_)
          · exact absurd ((nI_leI (by omega) (by omega)).mp h23) (by omega)
          · skip
            refine r_aload_n hC dX5_foldUpright_26 rfl rfl ?_
            refine r_iload_n hC dX5_foldUpright_27 rfl rfl ?_
            refine r_iload hC dX5_foldUpright_28 rfl ?_
            refine r_cV (as := [.int (nI r), .int (nI k)]) hC (c_pileAt hzs hp2 hr2 (r := r) (c := k) (by omega) (by omega)) cs_X5_pileAt q_670 q_672 q_28 (hp2.1) (by decide) rfl dX5_foldUpright_30 rfl rfl ⟨Nat.le_of_ble_eq_true rfl, Nat.le_of_ble_eq_true rfl⟩ (Nat.le_of_ble_eq_true rfl) ⟨Nat.le_of_ble_eq_true rfl, Nat.le_of_ble_eq_true rfl⟩ (fun v30 S30 p30 => ?_) (fun _ x => x.elim)
            obtain ⟨rfl, e30⟩ := p30
            rw [e30]
            have es : nI rows - nI 1 - nI r = nI (rows - 1 - r) := by rw [pk_sub (by omega), pk_sub (by omega)]
            refine r_istore hC dX5_foldUpright_33 (by decide) ?_
            refine r_aload_n hC dX5_foldUpright_35 rfl rfl ?_
            refine r_aload_n hC dX5_foldUpright_36 rfl rfl ?_
            refine r_getI hC fl_X5_25 rfl dX5_foldUpright_37 (hp2.1) (v3) ?_
            refine r_iconst (v := nI 1) hC dX5_foldUpright_40 (by decide) ?_
            refine r_isub hC dX5_foldUpright_41 ?_
            refine r_iload_n hC dX5_foldUpright_42 rfl rfl ?_
            refine r_isub hC dX5_foldUpright_43 ?_
            refine r_iload hC dX5_foldUpright_44 rfl ?_
            rw [es]
            refine r_cV (as := [.int (nI (rows - 1 - r)), .int (nI k)]) hC (c_pileAt hzs hp2 hr2 (r := rows - 1 - r) (c := k) (by omega) (by omega)) cs_X5_pileAt q_670 q_672 q_28 (hp2.1) (by decide) rfl dX5_foldUpright_46 rfl rfl ⟨Nat.le_of_ble_eq_true rfl, Nat.le_of_ble_eq_true rfl⟩ (Nat.le_of_ble_eq_true rfl) ⟨Nat.le_of_ble_eq_true rfl, Nat.le_of_ble_eq_true rfl⟩ (fun v46 S46 p46 => ?_) (fun _ x => x.elim)
            obtain ⟨rfl, e46⟩ := p46
            rw [e46]
            have epl : ∀ r2 c, pil (upC (upR s st r) st r k) r2 c = pil (upR s st r) r2 c := fun r2 c => pil_2 (upC_2 _ _ _ _) r2 c
            rw [epl, epl]
            have hpl : ∀ r2 c, r2 ≤ 8 → c ≤ 8 → pil (upR s st r) r2 c ≤ 100 := fun r2 c hr2 hc => by
              rw [pil_2 (upR_2 s st r)]; unfold pil; omega
            have hpne : pil (upR s st r) (rows - 1 - r) k ≠ pil (upR s st r) r k := by unfold pil; omega
            have h6c : (upR s st r).2.2.2.2.1 = rows := by rw [upR_2]; exact hR
            have go : ∀ fr on : Nat, fr = (if st then pil (upR s st r) (rows - 1 - r) k else pil (upR s st r) r k) → on = (if st then pil (upR s st r) r k else pil (upR s st r) (rows - 1 - r) k) →
                J G Z S2 0 0 74 [some (va_rf (some p)), some (.int (bI st)), some (.int (nI (rows / 2))), some (.int (nI r)), some (.int (nI k)), some (.int (nI (pil (upR s st r) r k))), some (.int (nI (pil (upR s st r) (rows - 1 - r) k)))] [.int (nI on), .int (nI fr), va_rf (some p)] := by
              intro fr on hfr hon
              refine r_cV (as := [.int (nI fr), .int (nI on)]) hC (c_turnOnto hzs hp2 hr2 (fr := fr) (on := on) (by rw [hfr]; split <;> exact hpl _ _ (by omega) (by omega)) (by rw [hon]; split <;> exact hpl _ _ (by omega) (by omega)) (by rw [hfr, hon]; split; exact hpne; exact hpne.symm)) cs_X5_turnOnto q_674 q_676 q_29 (hp2.1) (by decide) rfl dX5_foldUpright_74 rfl rfl ⟨Nat.le_of_ble_eq_true rfl, Nat.le_of_ble_eq_true rfl⟩ (Nat.le_of_ble_eq_true rfl) ⟨Nat.le_of_ble_eq_true rfl, Nat.le_of_ble_eq_true rfl⟩ (fun v74 S74 p74 => ?_) (fun _ x => x.elim)
              obtain ⟨rfl, hr3, hx3⟩ := p74
              refine r_iinc hC dX5_foldUpright_77 rfl (ii1 _) ?_
              refine r_goto (tgt := 17) hC dX5_foldUpright_80 (by decide) ?_
              refine ih2 (k + 1) _ _ _ (by omega) ?_ (hx2.tr hx3)
              simp only [upC]
              rw [h6c, ← hfr, ← hon]
              exact hr3
            cases st with
            | false =>
              refine r_istore hC dX5_foldUpright_49 (by decide) ?_
              refine r_aload_n hC dX5_foldUpright_51 rfl rfl ?_
              refine r_iload_n hC dX5_foldUpright_52 rfl rfl ?_
              refine r_ifeq (tgt := 61) hC dX5_foldUpright_53 (by decide) (fun h53 => ?_) (fun h53 => ?_)
              · skip
                refine r_iload hC dX5_foldUpright_61 rfl ?_
                refine r_iload_n hC dX5_foldUpright_63 rfl rfl ?_
                refine r_ifeq (tgt := 72) hC dX5_foldUpright_64 (by decide) (fun h64 => ?_) (fun h64 => ?_)
                · skip
                  refine r_iload hC dX5_foldUpright_72 rfl ?_
                  exact go _ _ rfl rfl
                · exact absurd rfl h64
              · exact absurd rfl h53
            | true =>
              refine r_istore hC dX5_foldUpright_49 (by decide) ?_
              refine r_aload_n hC dX5_foldUpright_51 rfl rfl ?_
              refine r_iload_n hC dX5_foldUpright_52 rfl rfl ?_
              refine r_ifeq (tgt := 61) hC dX5_foldUpright_53 (by decide) (fun h53 => ?_) (fun h53 => ?_)
              · exact absurd h53 (by decide)
              · skip
                refine r_iload hC dX5_foldUpright_56 rfl ?_
                refine r_goto (tgt := 63) hC dX5_foldUpright_58 (by decide) ?_
                refine r_iload_n hC dX5_foldUpright_63 rfl rfl ?_
                refine r_ifeq (tgt := 72) hC dX5_foldUpright_64 (by decide) (fun h64 => ?_) (fun h64 => ?_)
                · exact absurd h64 (by decide)
                · skip
                  refine r_iload hC dX5_foldUpright_67 rfl ?_
                  refine r_goto (tgt := 74) hC dX5_foldUpright_69 (by decide) ?_
                  exact go _ _ rfl rfl
      refine r_iload_n hC dX5_foldUpright_9 rfl rfl ?_
      refine r_iload_n hC dX5_foldUpright_10 rfl rfl ?_
      refine r_icge (tgt := 89) hC dX5_foldUpright_11 (by decide) (fun h11 => ?_) (fun h11 => ?_)
      · exact absurd ((nI_leI (by omega) (by omega)).mp h11) (by omega)
      · skip
        refine r_iconst (v := nI 0) hC dX5_foldUpright_14 (by decide) ?_
        refine r_istore hC dX5_foldUpright_15 (by decide) ?_
        exact inner cols 0 S1 o5 o6 (by omega) hr1 hx
  refine r_aload_n hC dX5_foldUpright_0 rfl rfl ?_
  refine r_getI hC fl_X5_25 rfl dX5_foldUpright_1 (hp.1) (q3) ?_
  refine r_iconst (v := nI 2) hC dX5_foldUpright_4 (by decide) ?_
  refine r_idiv hC dX5_foldUpright_5 (by decide) ?_
  refine r_istore_n hC dX5_foldUpright_6 rfl (by decide) ?_
  refine r_iconst (v := nI 0) hC dX5_foldUpright_7 (by decide) ?_
  refine r_istore_n hC dX5_foldUpright_8 rfl (by decide) ?_
  rw [show nI rows / nI 2 = nI (rows / 2) from pk_div (by omega) (by decide) (by decide)]
  exact outer (rows / 2) 0 S none none none (by omega) hr Ex.rf
set_option maxRecDepth 100000 in
set_option maxHeartbeats 2000000 in
theorem c_spread (hl : l.stackTraces = false) (hp : isPi S p ac ah) :
    MT l G S yX5_spread cX5_spread 2 none (rmA 0) [va_rf (some p)] (fun v S' => v = none ∧ PiR S' p ac ah spr0 ∧ ExP S S' p ac ah) (fun _ => False) := by
  obtain ⟨kp, rc, rh, kc, nc, kh, nh, hch⟩ := id hp
  refine MT_of (by decide +kernel) hl rfl (Nat.le_of_ble_eq_true rfl) (fun Z hC hzl hnm hT hQ => ?_)
  change J G Z S 0 0 0 [some (va_rf (some p)), none] []
  have loop : ∀ (d i : Nat) (S1 : PS), i + d = 8 → ExP S S1 p ac ah → pI S1 162 p = nI 0 → pI S1 163 p = nI 0 → pI S1 164 p = nI 2 → pI S1 165 p = nI 4 → (∀ j, j < i → pA S1 ah j = nI 1 ∧ pA S1 ac (j * 8) = nI j) → J G Z S1 0 0 22 [some (va_rf (some p)), some (.int (nI i))] [] := by
    intro d
    induction d with
    | zero =>
      intro i S1 hi hx v1 v2 v3 v4 hj
      have hi : i = 8 := by omega
      subst hi
      refine r_iload_n hC dX5_spread_22 rfl rfl ?_
      refine r_bipush (v := nI 8) hC dX5_spread_23 (by decide) ?_
      refine r_icge (tgt := 51) hC dX5_spread_25 (by decide) (fun h25 => ?_) (fun h25 => ?_)
      · skip
        refine r_vret hC hQ rfl dX5_spread_51 (Nat.le_of_ble_eq_true rfl) (Nat.le_of_ble_eq_true rfl) ?_
        refine ⟨rfl, ⟨fun x hx2 c hc => ?_, fun j h => (hj j h).1, fun _ => (by show 1 ≤ 8; decide), v1, v2, v3, v4, by decide, by decide⟩, hx⟩
        simp only [spr0] at hc
        split at hc
        · rename_i hh
          cases hc
          have := (hj (x / 8) (by omega)).2
          rwa [show x / 8 * 8 = x by omega] at this
        · cases hc
      · exact absurd (nI_le (Nat.le_refl _) (by decide)) h25
    | succ d ih =>
      intro i S1 hi hx v1 v2 v3 v4 hj
      obtain ⟨kp1, rc1, rh1, kc1, nc1, kh1, nh1, -⟩ := hp.ex hx
      refine r_iload_n hC dX5_spread_22 rfl rfl ?_
      refine r_bipush (v := nI 8) hC dX5_spread_23 (by decide) ?_
      refine r_icge (tgt := 51) hC dX5_spread_25 (by decide) (fun h25 => ?_) (fun h25 => ?_)
      · exact absurd ((nI_leI (by omega) (by omega)).mp h25) (by omega)
      · skip
        refine r_aload_n hC dX5_spread_28 rfl rfl ?_
        refine r_getR  hC fl_X5_15 dX5_spread_29 (kp1) (rh1) ?_
        refine r_iload_n hC dX5_spread_32 rfl rfl ?_
        refine r_iconst (v := nI 1) hC dX5_spread_33 (by decide) ?_
        refine r_iast hC dX5_spread_34 (kh1) (rfl) (by rw [nh1]; omega) (by rw [nh1]; decide) ?_
        refine r_aload_n hC dX5_spread_35 rfl rfl ?_
        refine r_getR  hC fl_X5_9 dX5_spread_36 (kp1) (rc1) ?_
        refine r_iload_n hC dX5_spread_39 rfl rfl ?_
        refine r_bipush (v := nI 8) hC dX5_spread_40 (by decide) ?_
        refine r_imul hC dX5_spread_42 ?_
        refine r_iload_n hC dX5_spread_43 rfl rfl ?_
        refine r_iast hC dX5_spread_44 (kc1) ((show _ = nI (i * 8) from pk_mul i 8)) (show i * 8 < pN S1 ac by rw [nc1]; omega) (show pN S1 ac < 2147483648 by rw [nc1]; decide) ?_
        refine r_iinc hC dX5_spread_45 rfl (ii1 _) ?_
        refine r_goto (tgt := 22) hC dX5_spread_48 (by decide) ?_
        refine ih (i + 1) _ (by omega) ((hx.tA (Or.inl (Or.inr rfl))).tA (Or.inl (Or.inl rfl))) v1 v2 v3 v4 (fun j hji => ?_)
        rw [A_n _ _ hch.symm, A_s, A_s, A_n _ _ hch]
        by_cases e : j = i
        · subst e; rw [upd_self, upd_self]; exact ⟨rfl, rfl⟩
        · rw [pk_un e, pk_un (by omega)]; exact hj j (by omega)
  refine r_aload_n hC dX5_spread_0 rfl rfl ?_
  refine r_iconst (v := nI 0) hC dX5_spread_1 (by decide) ?_
  refine r_putI hC fl_X5_18 rfl (by decide) dX5_spread_2 (kp) (fun h => absurd h (by decide)) ?_
  refine r_aload_n hC dX5_spread_5 rfl rfl ?_
  refine r_iconst (v := nI 0) hC dX5_spread_6 (by decide) ?_
  refine r_putI hC fl_X5_22 rfl (by decide) dX5_spread_7 (kp) (fun h => absurd h (by decide)) ?_
  refine r_aload_n hC dX5_spread_10 rfl rfl ?_
  refine r_iconst (v := nI 2) hC dX5_spread_11 (by decide) ?_
  refine r_putI hC fl_X5_25 rfl (by decide) dX5_spread_12 (kp) (fun h => absurd h (by decide)) ?_
  refine r_aload_n hC dX5_spread_15 rfl rfl ?_
  refine r_iconst (v := nI 4) hC dX5_spread_16 (by decide) ?_
  refine r_putI hC fl_X5_28 rfl (by decide) dX5_spread_17 (kp) (fun h => absurd h (by decide)) ?_
  refine r_iconst (v := nI 0) hC dX5_spread_20 (by decide) ?_
  refine r_istore_n hC dX5_spread_21 rfl (by decide) ?_
  refine loop 8 0 _ (by omega) ((((Ex.putI ⟨rfl, Or.inl rfl⟩).tI (Or.inl ⟨rfl, Or.inr (Or.inl rfl)⟩)).tI (Or.inl ⟨rfl, Or.inr (Or.inr (Or.inl rfl))⟩)).tI (Or.inl ⟨rfl, Or.inr (Or.inr (Or.inr rfl))⟩)) ?_ ?_ ?_ ?_ (fun j hj => absurd hj (by omega))
  · rw [I_f _ _ _ _ (by decide), I_f _ _ _ _ (by decide), I_f _ _ _ _ (by decide), I_s]
  · rw [I_f _ _ _ _ (by decide), I_f _ _ _ _ (by decide), I_s]
  · rw [I_f _ _ _ _ (by decide), I_s]
  · rw [I_s]
end PilesD

