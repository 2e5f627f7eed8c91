/-! ===== print ===== -/
section PrintB
variable {l : Launch} {G : GG} {S : PS} {tg : TG} {W : WT} {A : AS} {t : Nat}
set_option maxRecDepth 100000 in
set_option maxHeartbeats 2000000 in
theorem c_print (hl : l.stackTraces = false) (h : CL G S tg W A t) (x : Int32) :
    MT l G S yX7_print cX7_print 4 (some .int) (rmU 440 3600) [va_rf (some t), .int x] (EN G S tg t (oPrint A x)) (XO A (oPrint A x) [eIA, eIS]) := by
  obtain ⟨⟨hv, hb, ho, hs, hr⟩, hF⟩ := id h
  have h5 := hv.2.1
  have h50 := hv.2.2.1
  refine MT_of (by decide +kernel) hl rfl (Nat.le_of_ble_eq_true rfl) (fun Z hC hzl hnm hT hQ => ?_)
  change J G Z S 0 0 0 [some (va_rf (some t)), some (.int x), none, none] []
  have hzs : (zl Z).stackTraces = false := by rw [hzl]; exact hl
  refine r_hge hC (fun hg => ?_)
  refine r_iload_n hC dX7_print_0 rfl rfl ?_
  refine r_iconst (v := nI 1) hC dX7_print_1 (by decide) ?_
  refine r_bipush (v := nI 10) hC dX7_print_2 (by decide) ?_
  refine r_cS (as := [.int x, .int (nI 1), .int (nI 10)]) hC (c_checkRange hzs x (nI 1) (nI 10)) cs_X7_checkRange q_432 q_433 dX7_print_4 rfl rfl ⟨Nat.le_of_ble_eq_true rfl, Nat.le_of_ble_eq_true rfl⟩ (Nat.le_of_ble_eq_true rfl) ⟨Nat.le_of_ble_eq_true rfl, Nat.le_of_ble_eq_true rfl⟩ (fun v4 S4 p4 => ?_) (fun E4 x4 => ?_)
  · obtain ⟨rfl, e4, a1, a2⟩ := p4
    rw [e4]
    obtain ⟨n, hn, rfl⟩ := rgb_n (by decide) (Int32.le_trans (show nI 0 ≤ nI 1 by decide) a1) a2
    have q1 : rgb (nI n) 1 10 = true := rgb_t a1 a2
    have q2 : ii (nI n) = n := ii_n (by omega)
    have hal := allN_le hv (Nat.le_refl (aNo A))
    refine r_iload_n hC dX7_print_7 rfl rfl ?_
    refine r_aload_n hC dX7_print_8 rfl rfl ?_
    refine r_cV (as := []) hC (c_countAllLacking hzs h.1) cs_X7_countAllLacking q_693 q_695 q_32 (hr.1) (by decide) rfl dX7_print_9 rfl rfl ⟨Nat.le_of_ble_eq_true rfl, Nat.le_of_ble_eq_true rfl⟩ (Nat.le_of_ble_eq_true rfl) ⟨Nat.le_of_ble_eq_true rfl, Nat.le_of_ble_eq_true rfl⟩ (fun v9 S9 p9 => ?_) (fun _ x => x.elim)
    obtain ⟨rfl, e9⟩ := p9
    rw [e9]
    refine r_cS (as := [.int (nI (allN A (aNo A)))]) hC (c_sheetsFor hzs (n := allN A (aNo A)) (by omega)) cs_X7_sheetsFor q_623 q_624 dX7_print_12 rfl rfl ⟨Nat.le_of_ble_eq_true rfl, Nat.le_of_ble_eq_true rfl⟩ (Nat.le_of_ble_eq_true rfl) ⟨Nat.le_of_ble_eq_true rfl, Nat.le_of_ble_eq_true rfl⟩ (fun v12 S12 p12 => ?_) (fun _ x => x.elim)
    obtain ⟨rfl, e12⟩ := p12
    rw [e12]
    refine r_mmin hC q_697 q_392 q_86 q_393 dX7_print_15 (Nat.le_of_ble_eq_true rfl) (Nat.le_of_ble_eq_true rfl) (Nat.le_of_ble_eq_true rfl) (Nat.le_of_ble_eq_true rfl) ?_
    have em : (if nI ((allN A (aNo A) + 7) / 8) < nI n then nI ((allN A (aNo A) + 7) / 8) else nI n) = nI (prN A n) := by
      unfold prN
      by_cases z : (allN A (aNo A) + 7) / 8 < n
      · rw [if_pos z, if_pos (nI_lt z (by omega))]
      · rw [if_neg z, if_neg (nI_nlt (by omega) (by omega))]
    rw [em]
    have hpn : prN A n ≤ 10 := by unfold prN; split <;> omega
    refine r_istore_n hC dX7_print_18 rfl (by decide) ?_
    refine r_aload_n hC dX7_print_19 rfl rfl ?_
    refine r_getR  hC fl_X7_19 dX7_print_20 (hr.1) (hr.2.2.2.1) ?_
    refine r_cV (as := []) hC (c_size hzs hs.1.1) cs_Jx4a65c_size_8abf5 q_201 q_202 q_203 (hs.1.1) (by decide) rfl dX7_print_23 rfl rfl ⟨Nat.le_of_ble_eq_true rfl, Nat.le_of_ble_eq_true rfl⟩ (Nat.le_of_ble_eq_true rfl) ⟨Nat.le_of_ble_eq_true rfl, Nat.le_of_ble_eq_true rfl⟩ (fun v23 S23 p23 => ?_) (fun _ x => x.elim)
    obtain ⟨rfl, e23⟩ := p23
    rw [e23, hs.1.2.1]
    refine r_iload_n hC dX7_print_26 rfl rfl ?_
    refine r_iadd hC dX7_print_27 ?_
    rw [nI_add]
    refine r_bipush (v := nI 50) hC dX7_print_28 (by decide) ?_
    refine r_icle (tgt := 43) hC dX7_print_30 (by decide) (fun h30 => ?_) (fun h30 => ?_)
    rotate_left
    · have hgt : 50 < aNs A + prN A n := Nat.lt_of_not_le (fun z => h30 (nI_le z (by decide)))
      exact r_throw (i := 7) (E := eIS) (names := ["java/lang/RuntimeException", "java/lang/Exception"]) hC hQ hT ⟨1, by unfold oPrint; rw [if_pos q1, q2, if_pos hgt], rfl⟩ (by decide +kernel) (by decide +kernel) q_241 q_83 rfl hat_60 hot_60 dX7_print_33 dX7_print_36 dX7_print_37 dX7_print_39 dX7_print_42 (Nat.le_of_ble_eq_true rfl) (Nat.le_of_ble_eq_true rfl) (Nat.le_of_ble_eq_true rfl) (Nat.le_of_ble_eq_true rfl)
    · have hle : aNs A + prN A n ≤ 50 := (nI_leI (by omega) (by decide)).mp h30
      have e : oPrint A (nI n) = (0, nI (prN A n), prI A (prN A n)) := by unfold oPrint; rw [if_pos q1, q2, if_neg (by omega)]
      rw [e] at hQ
      refine r_aload_n hC dX7_print_43 rfl rfl ?_
      refine r_cV (as := []) hC (c_sortOrders hzs h.1) cs_X7_sortOrders q_699 q_701 q_33 (hr.1) (by decide) rfl dX7_print_44 rfl rfl ⟨Nat.le_of_ble_eq_true rfl, Nat.le_of_ble_eq_true rfl⟩ (Nat.le_of_ble_eq_true rfl) ⟨Nat.le_of_ble_eq_true rfl, Nat.le_of_ble_eq_true rfl⟩ (fun v44 S44 p44 => ?_) (fun _ x => x.elim)
      obtain ⟨rfl, g, e44, hgk⟩ := p44
      have hn44 := (h.1.ut hg g).1
      have hf44 := (h.1.ut hg g).2
      rw [← e44] at hn44 hf44
      have hu44 : pA S44 (wUt W) = g := by rw [e44]; exact A_s _ _ _
      have loop : ∀ (d i : Nat) (S1 : PS) (tg1 : TG) (W1 : WT), i + d = prN A n → CL G S1 tg1 W1 (prI A i) t → FrC tg S S1 tg1 → W1 0 = W 0 → pA S1 (wUt W) = g → aNs (prI A i) = aNs A + i → aNo (prI A i) = aNo A → (∀ k, tnA (prI A i) k = tnA A k) →
          J G Z S1 (1 + 43 * i) (6 + 352 * i) 49 [some (va_rf (some t)), some (.int (nI n)), some (.int (nI (prN A n))), some (.int (nI i))] [] := by
        intro d
        induction d with
        | zero =>
          intro i S1 tg1 W1 hi h1 hf1 hw hu hns hno htn
          have hi : i = prN A n := by omega
          subst hi
          refine r_iload_n hC dX7_print_49 rfl rfl ?_
          refine r_iload_n hC dX7_print_50 rfl rfl ?_
          refine r_icge (tgt := 72) hC dX7_print_51 (by decide) (fun h51 => ?_) (fun h51 => ?_)
          · refine r_iload_n hC dX7_print_72 rfl rfl ?_
            refine r_iret hC hQ rfl dX7_print_73 (by first | exact (show 1 + 43 * prN A n + 0 ≤ 440 by omega) | exact (show 6 + 352 * prN A n + 0 ≤ 3600 by omega)) (by first | exact (show 1 + 43 * prN A n + 0 ≤ 440 by omega) | exact (show 6 + 352 * prN A n + 0 ≤ 3600 by omega)) ?_
            exact ⟨rfl, rfl, tg1, W1, h1, hf1⟩
          · exact absurd (nI_le (Nat.le_refl _) (by omega)) h51
        | succ d ih =>
          intro i S1 tg1 W1 hi h1 hf1 hw hu hns hno htn
          have hin : i < prN A n := by omega
          have hns50 : aNs (prI A i) < 50 := by omega
          obtain ⟨⟨hv1, hb1, ho1, hs1, hr1⟩, hF1⟩ := id h1
          have wu1 : wUt W1 = wUt W := by show W1 0 3 0 = W 0 3 0; rw [hw]
          refine r_iload_n hC dX7_print_49 rfl rfl ?_
          refine r_iload_n hC dX7_print_50 rfl rfl ?_
          refine r_icge (tgt := 72) hC dX7_print_51 (by decide) (fun h51 => ?_) (fun h51 => ?_)
          · exact absurd ((nI_leI (by omega) (by omega)).mp h51) (by omega)
          · skip
            refine r_aload_n hC dX7_print_54 rfl rfl ?_
            refine r_getR  hC fl_X7_19 dX7_print_55 (hr1.1) (hr1.2.2.2.1) ?_
            refine r_aload_n hC dX7_print_58 rfl rfl ?_
            refine r_cV (as := []) hC (c_printSheet hzs h1 hns50 (fun k hk => by rw [wu1, hu, htn, hgk k (by omega)])) cs_X7_printSheet q_703 q_705 q_34 (hr1.1) (by decide) rfl dX7_print_59 rfl rfl ⟨Nat.le_of_ble_eq_true rfl, Nat.le_of_ble_eq_true rfl⟩ (Nat.le_of_ble_eq_true rfl) ⟨by first | exact (show 1 + 43 * i + 0 ≤ 440 by omega) | exact (show 6 + 352 * i + 0 ≤ 3600 by omega) | exact (show 1 + 43 * i + 42 ≤ 440 by omega) | exact (show 6 + 352 * i + 252 ≤ 3600 by omega) | exact (show 1 + 43 * i + 42 + 1 ≤ 440 by omega) | exact (show 6 + 352 * i + 252 + 100 ≤ 3600 by omega), by first | exact (show 1 + 43 * i + 0 ≤ 440 by omega) | exact (show 6 + 352 * i + 0 ≤ 3600 by omega) | exact (show 1 + 43 * i + 42 ≤ 440 by omega) | exact (show 6 + 352 * i + 252 ≤ 3600 by omega) | exact (show 1 + 43 * i + 42 + 1 ≤ 440 by omega) | exact (show 6 + 352 * i + 252 + 100 ≤ 3600 by omega)⟩ (fun v59 S59 p59 => ?_) (fun _ x => x.elim)
            obtain ⟨tg', W', rfl, hn59, hvf59, hf59, hw59, hsm, hu59⟩ := p59
            refine r_hge hC (fun hg59 => ?_)
            obtain ⟨m1, m2, m3, m4, m5, m6, m7⟩ := hsm.all
            have wl : wLs W1 = wLs W' := by show W1 0 2 0 = W' 0 2 0; rw [hw59]
            have hj59 : aNs (prI A i) < aNs (pr1 (prI A i)) := by rw [m3]; exact Nat.lt_succ_self _
            have ksh := (hn59.2.2.2.1.2.2.2 _ hj59).1.1
            rw [wl]
            refine r_cV (as := [va_rf (some (wSh W' (aNs (prI A i))))]) hC (c_add hzs hn59.2.2.2.1.1 (by omega) hg59 ksh (r := (RX6, TX6, 4)) (by decide) rfl q_1209) cs_Jx4a65c_add_9ea2d q_338 q_339 q_340 (hn59.2.2.2.1.1.1) (by decide) rfl dX7_print_62 rfl rfl ⟨Nat.le_of_ble_eq_true rfl, Nat.le_of_ble_eq_true rfl⟩ (Nat.le_of_ble_eq_true rfl) ⟨by first | exact (show 1 + 43 * i + 0 ≤ 440 by omega) | exact (show 6 + 352 * i + 0 ≤ 3600 by omega) | exact (show 1 + 43 * i + 42 ≤ 440 by omega) | exact (show 6 + 352 * i + 252 ≤ 3600 by omega) | exact (show 1 + 43 * i + 42 + 1 ≤ 440 by omega) | exact (show 6 + 352 * i + 252 + 100 ≤ 3600 by omega), by first | exact (show 1 + 43 * i + 0 ≤ 440 by omega) | exact (show 6 + 352 * i + 0 ≤ 3600 by omega) | exact (show 1 + 43 * i + 42 ≤ 440 by omega) | exact (show 6 + 352 * i + 252 ≤ 3600 by omega) | exact (show 1 + 43 * i + 42 + 1 ≤ 440 by omega) | exact (show 6 + 352 * i + 252 + 100 ≤ 3600 by omega)⟩ (fun v62 S62 p62 => ?_) (fun _ x => x.elim)
            obtain ⟨rfl, hadd⟩ := p62
            refine r_hge hC (fun hg62 => ?_)
            obtain ⟨hn62, hf62, hu62⟩ := hn59.add hj59 hg59 hadd hg62
            refine r_pop hC dX7_print_65 rfl ?_
            refine r_iinc hC dX7_print_66 rfl (ii1 _) ?_
            refine r_goto (tgt := 49) hC dX7_print_69 (by decide) ?_
            have hcl : CL G S62 (tgx S59 tg' (fun _ => 23)) W' (prI A (i + 1)) t := by
              refine ⟨?_, hvf59⟩
              rw [show aNs (prI A (i + 1)) = aNs (prI A i) + 1 from m3]
              exact hn62
            have wu2 : wUt W' = wUt W := by show W' 0 3 0 = W 0 3 0; rw [hw59, hw]
            refine ih (i + 1) S62 _ W' (by omega) hcl ((hf1.tr hf59).tr hf62) (hw59.trans hw) ?_ ?_ ?_ ?_
            · rw [← wu2, hu62, wu2, ← wu1, hu59, wu1, hu]
            · show aNs (pr1 (prI A i)) = _
              rw [m3]
              show aNs (prI A i) + 1 = _
              omega
            · show aNo (pr1 (prI A i)) = _
              rw [m2]
              exact hno
            · intro k
              rw [← htn]
              exact hsm.tn k
      refine r_iconst (v := nI 0) hC dX7_print_47 (by decide) ?_
      refine r_istore_n hC dX7_print_48 rfl (by decide) ?_
      exact loop (prN A n) 0 S44 tg W (by omega) ⟨hn44, hF⟩ hf44 rfl hu44 rfl rfl (fun _ => rfl)
  · refine r_out hC hQ hT (Nat.le_of_ble_eq_true rfl) (Nat.le_of_ble_eq_true rfl) ⟨0, ?_, by rw [x4.1]; rfl⟩
    unfold oPrint
    rw [if_neg (by rw [rgb_f x4.2]; decide)]
end PrintB

