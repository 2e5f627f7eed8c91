/-! ===== piles: whole folds ===== -/
theorem simT_2 (s : PT) (fr on : Nat) : (simT s fr on).2.2 = s.2.2 := by
  unfold simT
  split <;> rfl
theorem sideC_2 (s : PT) (st : Bool) (r : Nat) : ∀ k, (sideC s st r k).2.2 = s.2.2
  | 0 => rfl
  | k + 1 => by simp only [sideC]; rw [simT_2, sideC_2 s st r k]
theorem sideR_2 (s : PT) (st : Bool) : ∀ r, (sideR s st r).2.2 = s.2.2
  | 0 => rfl
  | r + 1 => by simp only [sideR]; rw [sideC_2, sideR_2 s st r]
theorem upC_2 (s : PT) (st : Bool) (r : Nat) : ∀ k, (upC s st r k).2.2 = s.2.2
  | 0 => rfl
  | k + 1 => by simp only [upC]; rw [simT_2, upC_2 s st r k]
theorem upR_2 (s : PT) (st : Bool) : ∀ r, (upR s st r).2.2 = s.2.2
  | 0 => rfl
  | r + 1 => by simp only [upR]; rw [upC_2, upR_2 s st r]
theorem pil_2 {s s' : PT} (h : s'.2.2 = s.2.2) (r c : Nat) : pil s' r c = pil s r c := by
  unfold pil
  rw [h]
section PilesC
variable {l : Launch} {G : GG} {S : PS} {p ac ah : Nat} {s : PT}
set_option maxRecDepth 100000 in
set_option maxHeartbeats 2000000 in
theorem c_foldSideways (hl : l.stackTraces = false) (hp : isPi S p ac ah) (hr : PiR S p ac ah s) (st : Bool) :
    MT l G S yX5_foldSideways cX5_foldSideways 7 none (rmA 1) [va_rf (some p), .int (bI st)] (fun v S' => v = none ∧ PiR S' p ac ah (sideS s st) ∧ ExP S S' p ac ah) (fun _ => False) := by
  obtain ⟨-, -, -, q1, q2, q3, q4, b1, b2⟩ := id hr
  refine MT_of (by decide +kernel) hl (by cases st <;> rfl) (Nat.le_of_ble_eq_true rfl) (fun Z hC hzl hnm hT hQ => ?_)
  change J G Z S 0 0 0 [some (va_rf (some p)), some (.int (bI st)), none, none, none, none, none] []
  have hzs : (zl Z).stackTraces = false := by rw [hzl]; exact hl
  obtain ⟨rows, hR⟩ : ∃ x, s.2.2.2.2.1 = x := ⟨_, rfl⟩
  obtain ⟨cols, hCo⟩ : ∃ x, s.2.2.2.2.2 = x := ⟨_, rfl⟩
  rw [hR] at q3 b1
  rw [hCo] at q4 b2
  have outer : ∀ (d r : Nat) (S1 : PS) (o4 o5 o6 : Option Value), r + d = rows → PiR S1 p ac ah (sideR s st r) → ExP S S1 p ac ah → J G Z S1 0 0 9 [some (va_rf (some p)), some (.int (bI st)), some (.int (nI (cols / 2))), some (.int (nI r)), o4, o5, o6] [] := by
    intro d
    induction d with
    | zero =>
      intro r S1 o4 o5 o6 hi hr1 hx
      have hi : r = rows := by omega
      subst hi
      have e2 := sideR_2 s st r
      have hp1 := hp.ex hx
      obtain ⟨w1, w2, w3, v1, v2, v3, v4, -⟩ := id hr1
      rw [e2] at v1 v2 v3 v4
      rw [hR] at v3
      rw [hCo] at v4
      refine r_iload_n hC dX5_foldSideways_9 rfl rfl ?_
      refine r_aload_n hC dX5_foldSideways_10 rfl rfl ?_
      refine r_getI hC fl_X5_25 rfl dX5_foldSideways_11 (hp1.1) (v3) ?_
      refine r_icge (tgt := 89) hC dX5_foldSideways_14 (by decide) (fun h14 => ?_) (fun h14 => ?_)
      · have fin : ∀ x : Nat, x = (if st then 0 else cols / 2) → J G Z S1 0 0 103 [some (va_rf (some p)), some (.int (bI st)), some (.int (nI (cols / 2))), some (.int (nI r)), o4, o5, o6] [.int (nI x), .int (nI s.2.2.2.1), va_rf (some p)] := by
          intro x hxe
          refine r_iadd hC dX5_foldSideways_103 ?_
          refine r_putI hC fl_X5_22 rfl (by decide) dX5_foldSideways_104 (hp1.1) (fun h => absurd h (by decide)) ?_
          refine r_aload_n hC dX5_foldSideways_107 rfl rfl ?_
          refine r_iload_n hC dX5_foldSideways_108 rfl rfl ?_
          refine r_putI hC fl_X5_28 rfl (by decide) dX5_foldSideways_109 (hp1.1) (fun h => absurd h (by decide)) ?_
          refine r_vret hC hQ rfl dX5_foldSideways_112 (Nat.le_of_ble_eq_true rfl) (Nat.le_of_ble_eq_true rfl) ?_
          rw [nI_add]
          have eS : sideS s st = ((sideR s st r).1, (sideR s st r).2.1, s.2.2.1, s.2.2.2.1 + x, r, cols / 2) := by
            unfold sideS
            rw [hR, hCo, hxe]
          rw [eS]
          refine ⟨rfl, ⟨w1, w2, w3, ?_, ?_, ?_, I_s _ _ _ _, b1, ?_⟩, (hx.tI (Or.inl ⟨rfl, Or.inr (Or.inl rfl)⟩)).tI (Or.inl ⟨rfl, Or.inr (Or.inr (Or.inr rfl))⟩)⟩
          · rw [I_f _ _ _ _ (by decide), I_f _ _ _ _ (by decide)]; exact v1
          · rw [I_f _ _ _ _ (by decide), I_s]
          · rw [I_f _ _ _ _ (by decide), I_f _ _ _ _ (by decide)]; exact v3
          · show s.2.2.2.1 + x + cols / 2 ≤ 8
            rw [hxe]
            split <;> omega
        refine r_aload_n hC dX5_foldSideways_89 rfl rfl ?_
        refine r_dup hC dX5_foldSideways_90 rfl ?_
        refine r_getI hC fl_X5_22 rfl dX5_foldSideways_91 (hp1.1) (v2) ?_
        refine r_iload_n hC dX5_foldSideways_94 rfl rfl ?_
        refine r_ifeq (tgt := 102) hC dX5_foldSideways_95 (by decide) (fun h95 => ?_) (fun h95 => ?_)
        · cases st with
          | true => exact absurd h95 (by decide)
          | false =>
            refine r_iload_n hC dX5_foldSideways_102 rfl rfl ?_
            exact fin _ rfl
        · cases st with
          | false => exact absurd rfl h95
          | true =>
            refine r_iconst (v := nI 0) hC dX5_foldSideways_98 (by decide) ?_
            refine r_goto (tgt := 103) hC dX5_foldSideways_99 (by decide) ?_
            exact fin 0 rfl
      · exact absurd (nI_le (Nat.le_refl _) (by omega)) h14
    | succ d ih =>
      intro r S1 o4 o5 o6 hi hr1 hx
      have hrr : r < rows := by omega
      have inner : ∀ (d2 k : Nat) (S2 : PS) (o5 o6 : Option Value), k + d2 = cols / 2 → PiR S2 p ac ah (sideC (sideR s st r) st r k) → ExP S S2 p ac ah → J G Z S2 0 0 20 [some (va_rf (some p)), some (.int (bI st)), some (.int (nI (cols / 2))), some (.int (nI r)), some (.int (nI k)), o5, o6] [] := by
        intro d2
        induction d2 with
        | zero =>
          intro k S2 o5 o6 hk hr2 hx2
          have hk : k = cols / 2 := by omega
          subst hk
          refine r_iload hC dX5_foldSideways_20 rfl ?_
          refine r_iload_n hC dX5_foldSideways_22 rfl rfl ?_
          refine r_icge (tgt := 83) hC dX5_foldSideways_23 (by decide) (fun h23 => ?_) (fun h23 => ?_)
          · skip
            refine r_iinc hC dX5_foldSideways_83 rfl (ii1 _) ?_
            refine r_goto (tgt := 9) hC dX5_foldSideways_86 (by decide) ?_
            refine ih (r + 1) S2 _ _ _ (by omega) ?_ hx2
            simp only [sideR]
            rw [hCo]
            exact hr2
          · exact absurd (nI_le (Nat.le_refl _) (by omega)) h23
        | succ d2 ih2 =>
          intro k S2 o5 o6 hk hr2 hx2
          have hp2 := hp.ex hx2
          have e2 : (sideC (sideR s st r) st r k).2.2 = s.2.2 := (sideC_2 _ _ _ _).trans (sideR_2 _ _ _)
          obtain ⟨-, -, -, v1, v2, v3, v4, -⟩ := id hr2
          rw [e2] at v1 v2 v3 v4
          rw [hCo] at v4
          refine r_iload hC dX5_foldSideways_20 rfl ?_
          refine r_iload_n hC dX5_foldSideways_22 rfl rfl ?_
          refine r_icge (tgt := 83) hC dX5_foldSideways_23 (by decide) (fun h23 => ?_) (fun h23 => ?_)
          · exact absurd ((nI_leI (by omega) (by omega)).mp h23) (by omega)
          · skip
            refine r_aload_n hC dX5_foldSideways_26 rfl rfl ?_
            refine r_iload_n hC dX5_foldSideways_27 rfl rfl ?_
            refine r_iload hC dX5_foldSideways_28 rfl ?_
            refine r_cV (as := [.int (nI r), .int (nI k)]) hC (c_pileAt hzs hp2 hr2 (r := r) (c := k) (by omega) (by omega)) cs_X5_pileAt q_670 q_672 q_28 (hp2.1) (by decide) rfl dX5_foldSideways_30 rfl rfl ⟨Nat.le_of_ble_eq_true rfl, Nat.le_of_ble_eq_true rfl⟩ (Nat.le_of_ble_eq_true rfl) ⟨Nat.le_of_ble_eq_true rfl, Nat.le_of_ble_eq_true rfl⟩ (fun v30 S30 p30 => ?_) (fun _ x => x.elim)
            obtain ⟨rfl, e30⟩ := p30
            rw [e30]
            have es : nI cols - nI 1 - nI k = nI (cols - 1 - k) := by rw [pk_sub (by omega), pk_sub (by omega)]
            refine r_istore hC dX5_foldSideways_33 (by decide) ?_
            refine r_aload_n hC dX5_foldSideways_35 rfl rfl ?_
            refine r_iload_n hC dX5_foldSideways_36 rfl rfl ?_
            refine r_aload_n hC dX5_foldSideways_37 rfl rfl ?_
            refine r_getI hC fl_X5_28 rfl dX5_foldSideways_38 (hp2.1) (v4) ?_
            refine r_iconst (v := nI 1) hC dX5_foldSideways_41 (by decide) ?_
            refine r_isub hC dX5_foldSideways_42 ?_
            refine r_iload hC dX5_foldSideways_43 rfl ?_
            refine r_isub hC dX5_foldSideways_45 ?_
            rw [es]
            refine r_cV (as := [.int (nI r), .int (nI (cols - 1 - k))]) hC (c_pileAt hzs hp2 hr2 (r := r) (c := cols - 1 - k) (by omega) (by omega)) cs_X5_pileAt q_670 q_672 q_28 (hp2.1) (by decide) rfl dX5_foldSideways_46 rfl rfl ⟨Nat.le_of_ble_eq_true rfl, Nat.le_of_ble_eq_true rfl⟩ (Nat.le_of_ble_eq_true rfl) ⟨Nat.le_of_ble_eq_true rfl, Nat.le_of_ble_eq_true rfl⟩ (fun v46 S46 p46 => ?_) (fun _ x => x.elim)
            obtain ⟨rfl, e46⟩ := p46
            rw [e46]
            have epl : ∀ c, pil (sideC (sideR s st r) st r k) r c = pil (sideR s st r) r c := fun c => pil_2 (sideC_2 _ _ _ _) r c
            rw [epl, epl]
            have hpl : ∀ c, c ≤ 8 → pil (sideR s st r) r c ≤ 100 := fun c hc => by
              rw [pil_2 (sideR_2 s st r)]; unfold pil; omega
            have hpne : pil (sideR s st r) r (cols - 1 - k) ≠ pil (sideR s st r) r k := by unfold pil; omega
            have h6c : (sideR s st r).2.2.2.2.2 = cols := by rw [sideR_2]; exact hCo
            have go : ∀ fr on : Nat, fr = (if st then pil (sideR s st r) r (cols - 1 - k) else pil (sideR s st r) r k) → on = (if st then pil (sideR s st r) r k else pil (sideR s st r) r (cols - 1 - k)) →
                J G Z S2 0 0 74 [some (va_rf (some p)), some (.int (bI st)), some (.int (nI (cols / 2))), some (.int (nI r)), some (.int (nI k)), some (.int (nI (pil (sideR s st r) r k))), some (.int (nI (pil (sideR s st r) r (cols - 1 - k))))] [.int (nI on), .int (nI fr), va_rf (some p)] := by
              intro fr on hfr hon
              refine r_cV (as := [.int (nI fr), .int (nI on)]) hC (c_turnOnto hzs hp2 hr2 (fr := fr) (on := on) (by rw [hfr]; split <;> exact hpl _ (by omega)) (by rw [hon]; split <;> exact hpl _ (by omega)) (by rw [hfr, hon]; split; exact hpne; exact hpne.symm)) cs_X5_turnOnto q_674 q_676 q_29 (hp2.1) (by decide) rfl dX5_foldSideways_74 rfl rfl ⟨Nat.le_of_ble_eq_true rfl, Nat.le_of_ble_eq_true rfl⟩ (Nat.le_of_ble_eq_true rfl) ⟨Nat.le_of_ble_eq_true rfl, Nat.le_of_ble_eq_true rfl⟩ (fun v74 S74 p74 => ?_) (fun _ x => x.elim)
              obtain ⟨rfl, hr3, hx3⟩ := p74
              refine r_iinc hC dX5_foldSideways_77 rfl (ii1 _) ?_
              refine r_goto (tgt := 20) hC dX5_foldSideways_80 (by decide) ?_
              refine ih2 (k + 1) _ _ _ (by omega) ?_ (hx2.tr hx3)
              simp only [sideC]
              rw [h6c, ← hfr, ← hon]
              exact hr3
            cases st with
            | false =>
              refine r_istore hC dX5_foldSideways_49 (by decide) ?_
              refine r_aload_n hC dX5_foldSideways_51 rfl rfl ?_
              refine r_iload_n hC dX5_foldSideways_52 rfl rfl ?_
              refine r_ifeq (tgt := 61) hC dX5_foldSideways_53 (by decide) (fun h53 => ?_) (fun h53 => ?_)
              · skip
                refine r_iload hC dX5_foldSideways_61 rfl ?_
                refine r_iload_n hC dX5_foldSideways_63 rfl rfl ?_
                refine r_ifeq (tgt := 72) hC dX5_foldSideways_64 (by decide) (fun h64 => ?_) (fun h64 => ?_)
                · skip
                  refine r_iload hC dX5_foldSideways_72 rfl ?_
                  exact go _ _ rfl rfl
                · exact absurd rfl h64
              · exact absurd rfl h53
            | true =>
              refine r_istore hC dX5_foldSideways_49 (by decide) ?_
              refine r_aload_n hC dX5_foldSideways_51 rfl rfl ?_
              refine r_iload_n hC dX5_foldSideways_52 rfl rfl ?_
              refine r_ifeq (tgt := 61) hC dX5_foldSideways_53 (by decide) (fun h53 => ?_) (fun h53 => ?_)
              · exact absurd h53 (by decide)
              · skip
                refine r_iload hC dX5_foldSideways_56 rfl ?_
                refine r_goto (tgt := 63) hC dX5_foldSideways_58 (by decide) ?_
                refine r_iload_n hC dX5_foldSideways_63 rfl rfl ?_
                refine r_ifeq (tgt := 72) hC dX5_foldSideways_64 (by decide) (fun h64 => ?_) (fun h64 => ?_)
                · exact absurd h64 (by decide)
                · skip
                  refine r_iload hC dX5_foldSideways_67 rfl ?_
                  refine r_goto (tgt := 74) hC dX5_foldSideways_69 (by decide) ?_
                  exact go _ _ rfl rfl
      have hp1 := hp.ex hx
      obtain ⟨-, -, -, v1, v2, v3, v4, -⟩ := id hr1
      rw [sideR_2] at v1 v2 v3 v4
      rw [hR] at v3
      refine r_iload_n hC dX5_foldSideways_9 rfl rfl ?_
      refine r_aload_n hC dX5_foldSideways_10 rfl rfl ?_
      refine r_getI hC fl_X5_25 rfl dX5_foldSideways_11 (hp1.1) (v3) ?_
      refine r_icge (tgt := 89) hC dX5_foldSideways_14 (by decide) (fun h14 => ?_) (fun h14 => ?_)
      · exact absurd ((nI_leI (by omega) (by omega)).mp h14) (by omega)
      · skip
        refine r_iconst (v := nI 0) hC dX5_foldSideways_17 (by decide) ?_
        refine r_istore hC dX5_foldSideways_18 (by decide) ?_
        exact inner (cols / 2) 0 S1 o5 o6 (by omega) hr1 hx
  refine r_aload_n hC dX5_foldSideways_0 rfl rfl ?_
  refine r_getI hC fl_X5_28 rfl dX5_foldSideways_1 (hp.1) (q4) ?_
  refine r_iconst (v := nI 2) hC dX5_foldSideways_4 (by decide) ?_
  refine r_idiv hC dX5_foldSideways_5 (by decide) ?_
  refine r_istore_n hC dX5_foldSideways_6 rfl (by decide) ?_
  refine r_iconst (v := nI 0) hC dX5_foldSideways_7 (by decide) ?_
  refine r_istore_n hC dX5_foldSideways_8 rfl (by decide) ?_
  rw [show nI cols / nI 2 = nI (cols / 2) from pk_div (by omega) (by decide) (by decide)]
  exact outer rows 0 S none none none (by omega) hr Ex.rf
end PilesC

