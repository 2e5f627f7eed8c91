/-! ===== erase, draw, addBook ===== -/
def oAddBook (A : AS) : OP := if aNb A = 4 then (1, 0, A) else (0, nI (aNb A), uD (bkA A (aNb A) (fun _ => 0) (fun _ => 0) (fun _ => 0) 0) 0 0 0 0 (aNb A + 1))
section BooksC
variable {l : Launch} {G : GG} {S : PS} {tg : TG} {W : WT} {A : AS} {t : Nat}
set_option maxRecDepth 100000 in
set_option maxHeartbeats 1000000 in
theorem c_erase (hl : l.stackTraces = false) (h : CL G S tg W A t) (b a : Int32) :
    MT l G S yX7_erase cX7_erase 4 (some .int) (rmT 3 2 12) [va_rf (some t), .int b, .int a] (EN G S tg t (oErase A b a)) (XO A (oErase A b a) [eIO]) := by
  obtain ⟨⟨hv, hb, ho, hs, hr⟩, hF⟩ := id h
  have h4 := hv.1
  refine MT_of (by decide +kernel) hl rfl (Nat.le_of_ble_eq_true rfl) (fun Z hC hzl hnm hT hQ => ?_)
  change J G Z S 0 0 0 [some (va_rf (some t)), some (.int b), some (.int a), none] []
  have hzs : (zl Z).stackTraces = false := by rw [hzl]; exact hl
  refine r_hge hC (fun hg => ?_)
  refine r_aload_n hC dX7_erase_0 rfl rfl ?_
  refine r_iload_n hC dX7_erase_1 rfl rfl ?_
  refine r_cV (as := [.int b]) hC (c_bookNumbered hzs hr.1 hr.2.1 hb.1 h4 b) cs_X7_bookNumbered q_408 q_410 q_5 (hr.1) (by decide) rfl dX7_erase_2 rfl rfl ⟨Nat.le_of_ble_eq_true rfl, Nat.le_of_ble_eq_true rfl⟩ (Nat.le_of_ble_eq_true rfl) ⟨Nat.le_of_ble_eq_true rfl, Nat.le_of_ble_eq_true rfl⟩ (fun v2 S2 p2 => ?_) (fun E2 x2 => ?_)
  · obtain ⟨j, hj, rfl, rfl, e2⟩ := p2
    rw [e2]
    obtain ⟨bb, b1, b2, b3, b4, b5, b6, b7, b8, b9, b10, b11⟩ := hb.2.2.2 j hj
    obtain ⟨h8, hV⟩ := hv.2.2.2.2.1 j hj
    have q1 : ixb (nI j) (aNb A) = true := ixb_t hj (by omega)
    have q2 : ii (nI j) = j := ii_n (by omega)
    refine r_astore_n hC dX7_erase_5 rfl (by decide) ?_
    refine r_iload_n hC dX7_erase_6 rfl rfl ?_
    refine r_aload_n hC dX7_erase_7 rfl rfl ?_
    refine r_getI hC fl_X7_74 rfl dX7_erase_8 (bb.1) (b6) ?_
    refine r_cS (as := [.int a, .int (nI (aSz A j))]) hC (c_checkIndex hzs a (m := aSz A j) (by omega)) cs_X7_checkIndex q_412 q_413 dX7_erase_11 rfl rfl ⟨Nat.le_of_ble_eq_true rfl, Nat.le_of_ble_eq_true rfl⟩ (Nat.le_of_ble_eq_true rfl) ⟨Nat.le_of_ble_eq_true rfl, Nat.le_of_ble_eq_true rfl⟩ (fun v11 S11 p11 => ?_) (fun E11 x11 => ?_)
    · obtain ⟨rfl, e11, k, hk, rfl⟩ := p11
      rw [e11]
      have q3 : ixb (nI k) (aSz A j) = true := ixb_t hk (by omega)
      have q4 : ii (nI k) = k := ii_n (by omega)
      obtain ⟨n, hn⟩ : ∃ n, aSz A j = n + 1 := ⟨aSz A j - 1, by omega⟩
      have hVA : VB (pA S (wBp W j)) (pA S (wBe W j)) (pA S (wBc W j)) (n + 1) := by rw [b8, b9, b10, ← hn]; exact hV
      have b6' : pI S 4 (wBk W j) = nI (n + 1) := by rw [b6, hn]
      refine r_aload_n hC dX7_erase_14 rfl rfl ?_
      refine r_iload_n hC dX7_erase_15 rfl rfl ?_
      refine r_cVN (as := [.int (nI k)]) hC (c_takeOut hzs bb b6' (by omega) hVA (by omega)) cs_X0_takeOut q_508 q_510 q_16 (bb.1) (by decide) rfl dX7_erase_16 rfl rfl ⟨Nat.le_of_ble_eq_true rfl, Nat.le_of_ble_eq_true rfl⟩ (Nat.le_of_ble_eq_true rfl) ⟨Nat.le_of_ble_eq_true rfl, Nat.le_of_ble_eq_true rfl⟩ (fun v16 S16 p16 => ?_) (fun _ x => x.elim)
      obtain ⟨rfl, g, e16, hh⟩ := p16
      rw [b8, b9, b10] at e16 hh
      rw [hn] at hV
      have hnn := CLn.bkP ⟨hv, hb, ho, hs, hr⟩ hg hj (show n ≤ 8 by omega) (VB_del (a := k) hV (by omega)) hh (t := t) (nl := aNs A) (i := j)
      have hfr := frC_bkU (f1 := shD (aPs A j) k (n + 1)) (f2 := shD (aBt A j) k (n + 1)) (f3 := shD (aCv A j) k (n + 1)) (n := n) (g := g) hb hj
      rw [← e16] at hnn hfr
      refine r_aload_n hC dX7_erase_19 rfl rfl ?_
      refine r_aload_n hC dX7_erase_20 rfl rfl ?_
      refine r_cV (as := [va_rf (some (wBk W j))]) hC (c_spoilChangedT hzs hnn hj hF.bk) cs_X7_spoilChanged q_475 q_477 q_11 (hnn.2.2.2.2.1) (by decide) rfl dX7_erase_21 rfl rfl ⟨Nat.le_of_ble_eq_true rfl, Nat.le_of_ble_eq_true rfl⟩ (Nat.le_of_ble_eq_true rfl) ⟨Nat.le_of_ble_eq_true rfl, Nat.le_of_ble_eq_true rfl⟩ (fun v21 S21 p21 => ?_) (fun _ x => x.elim)
      obtain ⟨rfl, hcl, hfr2⟩ := p21
      refine r_iret hC hQ rfl dX7_erase_24 (Nat.le_of_ble_eq_true rfl) (Nat.le_of_ble_eq_true rfl) ?_
      have e : oErase A (nI j) (nI k) = flow (bkA A j (shD (aPs A j) k (n + 1)) (shD (aBt A j) k (n + 1)) (shD (aCv A j) k (n + 1)) n) j := by
        unfold oErase
        rw [if_pos q1, q2, if_pos q3, q4, hn, Nat.add_sub_cancel]
      rw [e]
      exact ⟨rfl, rfl, tg, W, hcl, hfr.tr hfr2⟩
    · refine r_out hC hQ hT (Nat.le_of_ble_eq_true rfl) (Nat.le_of_ble_eq_true rfl) ⟨0, ?_, by rw [x11.1]; rfl⟩
      unfold oErase
      rw [if_pos q1, q2, if_neg (by rw [ixb_f x11.2]; decide)]
  · refine r_out hC hQ hT (Nat.le_of_ble_eq_true rfl) (Nat.le_of_ble_eq_true rfl) ⟨0, ?_, by rw [x2.1]; rfl⟩
    unfold oErase
    rw [if_neg (by rw [ixb_f x2.2]; decide)]
set_option maxRecDepth 100000 in
set_option maxHeartbeats 1000000 in
theorem c_draw (hl : l.stackTraces = false) (h : CL G S tg W A t) (b a p m c : Int32) :
    MT l G S yX7_draw cX7_draw 7 (some .int) (rmT 3 5 30) [va_rf (some t), .int b, .int a, .int p, .int m, .int c] (EN G S tg t (oDraw A b a p m c)) (XO A (oDraw A b a p m c) [eIO, eIA, eIS]) := by
  obtain ⟨⟨hv, hb, ho, hs, hr⟩, hF⟩ := id h
  have h4 := hv.1
  refine MT_of (by decide +kernel) hl rfl (Nat.le_of_ble_eq_true rfl) (fun Z hC hzl hnm hT hQ => ?_)
  change J G Z S 0 0 0 [some (va_rf (some t)), some (.int b), some (.int a), some (.int p), some (.int m), some (.int c), none] []
  have hzs : (zl Z).stackTraces = false := by rw [hzl]; exact hl
  refine r_hge hC (fun hg => ?_)
  refine r_aload_n hC dX7_draw_0 rfl rfl ?_
  refine r_iload_n hC dX7_draw_1 rfl rfl ?_
  refine r_cV (as := [.int b]) hC (c_bookNumbered hzs hr.1 hr.2.1 hb.1 h4 b) cs_X7_bookNumbered q_408 q_410 q_5 (hr.1) (by decide) rfl dX7_draw_2 rfl rfl ⟨Nat.le_of_ble_eq_true rfl, Nat.le_of_ble_eq_true rfl⟩ (Nat.le_of_ble_eq_true rfl) ⟨Nat.le_of_ble_eq_true rfl, Nat.le_of_ble_eq_true rfl⟩ (fun v2 S2 p2 => ?_) (fun E2 x2 => ?_)
  · obtain ⟨j, hj, rfl, rfl, e2⟩ := p2
    rw [e2]
    obtain ⟨bb, b1, b2, b3, b4, b5, b6, b7, b8, b9, b10, b11⟩ := hb.2.2.2 j hj
    obtain ⟨hsz, hV⟩ := hv.2.2.2.2.1 j hj
    have q1 : ixb (nI j) (aNb A) = true := ixb_t hj (by omega)
    have q2 : ii (nI j) = j := ii_n (by omega)
    have thr : ¬ (nI 0 ≤ a ∧ a ≤ nI (aSz A j)) → J G Z S (0 + 1) (0 + 6) 20 [some (va_rf (some t)), some (.int (nI j)), some (.int a), some (.int p), some (.int m), some (.int c), some (va_rf (some (wBk W j)))] [] := fun h =>
      r_throw (i := 2) (E := eIO) (names := ["java/lang/RuntimeException", "java/lang/Exception"]) hC hQ hT ⟨0, by unfold oDraw; rw [if_pos q1, q2, if_neg (by rw [rgb_f h]; decide)], rfl⟩ (by decide +kernel) (by decide +kernel) q_415 q_89 rfl hat_81 hot_81 dX7_draw_20 dX7_draw_23 dX7_draw_24 dX7_draw_26 dX7_draw_29 (Nat.le_of_ble_eq_true rfl) (Nat.le_of_ble_eq_true rfl) (Nat.le_of_ble_eq_true rfl) (Nat.le_of_ble_eq_true rfl)
    refine r_astore hC dX7_draw_5 (by decide) ?_
    refine r_iload_n hC dX7_draw_7 rfl rfl ?_
    refine r_iflt (tgt := 20) hC dX7_draw_8 (by decide) (fun h8 => ?_) (fun h8 => ?_)
    · exact thr (fun z => absurd h8 (Int32.not_lt.mpr z.1))
    · skip
      refine r_iload_n hC dX7_draw_11 rfl rfl ?_
      refine r_aload hC dX7_draw_12 rfl ?_
      refine r_getI hC fl_X7_74 rfl dX7_draw_14 (bb.1) (b6) ?_
      refine r_icle (tgt := 30) hC dX7_draw_17 (by decide) (fun h17 => ?_) (fun h17 => ?_)
      rotate_left
      · exact thr (fun z => h17 z.2)
      · obtain ⟨k, hk, rfl⟩ := rgb_n (by omega) (Int32.not_lt.mp h8) h17
        have q3 : rgb (nI k) 0 (aSz A j) = true := rgb_t (Int32.not_lt.mp h8) h17
        have q4 : ii (nI k) = k := ii_n (by omega)
        refine r_iload_n hC dX7_draw_30 rfl rfl ?_
        refine r_iconst (v := nI 0) hC dX7_draw_31 (by decide) ?_
        refine r_sipush (v := nI 999) hC dX7_draw_32 (by decide) ?_
        refine r_cS (as := [.int p, .int (nI 0), .int (nI 999)]) hC (c_checkRange hzs p (nI 0) (nI 999)) cs_X7_checkRange q_432 q_433 dX7_draw_35 rfl rfl ⟨Nat.le_of_ble_eq_true rfl, Nat.le_of_ble_eq_true rfl⟩ (Nat.le_of_ble_eq_true rfl) ⟨Nat.le_of_ble_eq_true rfl, Nat.le_of_ble_eq_true rfl⟩ (fun v35 S35 p35 => ?_) (fun E35 x35 => ?_)
        rotate_left
        · refine r_out hC hQ hT (Nat.le_of_ble_eq_true rfl) (Nat.le_of_ble_eq_true rfl) ⟨1, ?_, by rw [x35.1]; rfl⟩
          unfold oDraw
          rw [if_pos q1, q2, if_pos q3, if_neg (fun z => absurd z.1 (by rw [rgb_f x35.2]; decide))]
        · obtain ⟨rfl, e35, r1, r2⟩ := p35
          rw [e35]
          obtain ⟨x, hx, rfl⟩ := rgb_n (by decide) r1 r2
          refine r_iload hC dX7_draw_38 rfl ?_
          refine r_iconst (v := nI 0) hC dX7_draw_40 (by decide) ?_
          refine r_iconst (v := nI 5) hC dX7_draw_41 (by decide) ?_
          refine r_cS (as := [.int m, .int (nI 0), .int (nI 5)]) hC (c_checkRange hzs m (nI 0) (nI 5)) cs_X7_checkRange q_432 q_433 dX7_draw_42 rfl rfl ⟨Nat.le_of_ble_eq_true rfl, Nat.le_of_ble_eq_true rfl⟩ (Nat.le_of_ble_eq_true rfl) ⟨Nat.le_of_ble_eq_true rfl, Nat.le_of_ble_eq_true rfl⟩ (fun v42 S42 p42 => ?_) (fun E42 x42 => ?_)
          rotate_left
          · refine r_out hC hQ hT (Nat.le_of_ble_eq_true rfl) (Nat.le_of_ble_eq_true rfl) ⟨1, ?_, by rw [x42.1]; rfl⟩
            unfold oDraw
            rw [if_pos q1, q2, if_pos q3, if_neg (fun z => absurd z.2.1 (by rw [rgb_f x42.2]; decide))]
          · obtain ⟨rfl, e42, r3, r4⟩ := p42
            rw [e42]
            obtain ⟨y, hy, rfl⟩ := rgb_n (by decide) r3 r4
            refine r_iload hC dX7_draw_45 rfl ?_
            refine r_iconst (v := nI 0) hC dX7_draw_47 (by decide) ?_
            refine r_iconst (v := nI 3) hC dX7_draw_48 (by decide) ?_
            refine r_cS (as := [.int c, .int (nI 0), .int (nI 3)]) hC (c_checkRange hzs c (nI 0) (nI 3)) cs_X7_checkRange q_432 q_433 dX7_draw_49 rfl rfl ⟨Nat.le_of_ble_eq_true rfl, Nat.le_of_ble_eq_true rfl⟩ (Nat.le_of_ble_eq_true rfl) ⟨Nat.le_of_ble_eq_true rfl, Nat.le_of_ble_eq_true rfl⟩ (fun v49 S49 p49 => ?_) (fun E49 x49 => ?_)
            rotate_left
            · refine r_out hC hQ hT (Nat.le_of_ble_eq_true rfl) (Nat.le_of_ble_eq_true rfl) ⟨1, ?_, by rw [x49.1]; rfl⟩
              unfold oDraw
              rw [if_pos q1, q2, if_pos q3, if_neg (fun z => absurd z.2.2 (by rw [rgb_f x49.2]; decide))]
            · obtain ⟨rfl, e49, r5, r6⟩ := p49
              rw [e49]
              obtain ⟨z, hz, rfl⟩ := rgb_n (by decide) r5 r6
              refine r_aload hC dX7_draw_52 rfl ?_
              refine r_getI hC fl_X7_74 rfl dX7_draw_54 (bb.1) (b6) ?_
              refine r_bipush (v := nI 8) hC dX7_draw_57 (by decide) ?_
              refine r_iclt (tgt := 72) hC dX7_draw_59 (by decide) (fun h59 => ?_) (fun h59 => ?_)
              rotate_left
              · have hn8 : aSz A j = 8 := by
                  have : ¬ aSz A j < 8 := fun w => h59 (nI_lt w (by decide))
                  omega
                exact r_throw (i := 4) (E := eIS) (names := ["java/lang/RuntimeException", "java/lang/Exception"]) hC hQ hT ⟨2, by unfold oDraw; rw [if_pos q1, q2, if_pos q3, if_pos ⟨rgb_t r1 r2, rgb_t r3 r4, rgb_t r5 r6⟩, if_pos hn8], rfl⟩ (by decide +kernel) (by decide +kernel) q_241 q_83 rfl hat_60 hot_60 dX7_draw_62 dX7_draw_65 dX7_draw_66 dX7_draw_68 dX7_draw_71 (Nat.le_of_ble_eq_true rfl) (Nat.le_of_ble_eq_true rfl) (Nat.le_of_ble_eq_true rfl) (Nat.le_of_ble_eq_true rfl)
              · have h8' : aSz A j < 8 := (nI_ltI (by omega) (by omega)).mp h59
                have hVA : VB (pA S (wBp W j)) (pA S (wBe W j)) (pA S (wBc W j)) (aSz A j) := by rw [b8, b9, b10]; exact hV
                refine r_aload hC dX7_draw_72 rfl ?_
                refine r_iload_n hC dX7_draw_74 rfl rfl ?_
                refine r_iload_n hC dX7_draw_75 rfl rfl ?_
                refine r_iload hC dX7_draw_76 rfl ?_
                refine r_iload hC dX7_draw_78 rfl ?_
                refine r_cVN (as := [.int (nI k), .int (nI x), .int (nI y), .int (nI z)]) hC (c_insert hzs bb b6 h8' hVA hk hx hy hz) cs_X0_insert q_452 q_454 q_6 (bb.1) (by decide) rfl dX7_draw_80 rfl rfl ⟨Nat.le_of_ble_eq_true rfl, Nat.le_of_ble_eq_true rfl⟩ (Nat.le_of_ble_eq_true rfl) ⟨Nat.le_of_ble_eq_true rfl, Nat.le_of_ble_eq_true rfl⟩ (fun v80 S80 p80 => ?_) (fun _ x => x.elim)
                obtain ⟨rfl, g, e80, hh⟩ := p80
                rw [b8, b9, b10] at e80 hh
                have hnn := CLn.bkP ⟨hv, hb, ho, hs, hr⟩ hg hj (show aSz A j + 1 ≤ 8 by omega) (VB_ins (a := k) hV hk hx hy hz) hh (t := t) (nl := aNs A) (i := j)
                have hfr := frC_bkU (f1 := insF (aPs A j) (aSz A j) k (nI x)) (f2 := insF (aBt A j) (aSz A j) k (nI y)) (f3 := insF (aCv A j) (aSz A j) k (nI z)) (n := aSz A j + 1) (g := g) hb hj
                rw [← e80] at hnn hfr
                refine r_aload_n hC dX7_draw_83 rfl rfl ?_
                refine r_aload hC dX7_draw_84 rfl ?_
                refine r_cV (as := [va_rf (some (wBk W j))]) hC (c_spoilChangedT hzs hnn hj hF.bk) cs_X7_spoilChanged q_475 q_477 q_11 (hnn.2.2.2.2.1) (by decide) rfl dX7_draw_86 rfl rfl ⟨Nat.le_of_ble_eq_true rfl, Nat.le_of_ble_eq_true rfl⟩ (Nat.le_of_ble_eq_true rfl) ⟨Nat.le_of_ble_eq_true rfl, Nat.le_of_ble_eq_true rfl⟩ (fun v86 S86 p86 => ?_) (fun _ x => x.elim)
                obtain ⟨rfl, hcl, hfr2⟩ := p86
                refine r_iret hC hQ rfl dX7_draw_89 (Nat.le_of_ble_eq_true rfl) (Nat.le_of_ble_eq_true rfl) ?_
                have e : oDraw A (nI j) (nI k) (nI x) (nI y) (nI z) = flow (bkA A j (insF (aPs A j) (aSz A j) k (nI x)) (insF (aBt A j) (aSz A j) k (nI y)) (insF (aCv A j) (aSz A j) k (nI z)) (aSz A j + 1)) j := by
                  unfold oDraw
                  rw [if_pos q1, q2, if_pos q3, if_pos ⟨rgb_t r1 r2, rgb_t r3 r4, rgb_t r5 r6⟩, if_neg (by omega), q4]
                rw [e]
                exact ⟨rfl, rfl, tg, W, hcl, hfr.tr hfr2⟩
  · refine r_out hC hQ hT (Nat.le_of_ble_eq_true rfl) (Nat.le_of_ble_eq_true rfl) ⟨0, ?_, by rw [x2.1]; rfl⟩
    unfold oDraw
    rw [if_neg (by rw [ixb_f x2.2]; decide)]
set_option maxRecDepth 100000 in
set_option maxHeartbeats 1000000 in
theorem c_addBook (hl : l.stackTraces = false) (h : CL G S tg W A t) :
    MT l G S yX7_addBook cX7_addBook 1 (some .int) (rmT 5 7 180) [va_rf (some t)] (EN G S tg t (oAddBook A)) (XO A (oAddBook A) [eIS]) := by
  obtain ⟨⟨hv, hb, ho, hs, hr⟩, hF⟩ := id h
  have h4 := hv.1
  refine MT_of (by decide +kernel) hl rfl (Nat.le_of_ble_eq_true rfl) (fun Z hC hzl hnm hT hQ => ?_)
  change J G Z S 0 0 0 [some (va_rf (some t))] []
  have hzs : (zl Z).stackTraces = false := by rw [hzl]; exact hl
  refine r_hge hC (fun hg => ?_)
  refine r_aload_n hC dX7_addBook_0 rfl rfl ?_
  refine r_getR  hC fl_X7_12 dX7_addBook_1 (hr.1) (hr.2.1) ?_
  refine r_cV (as := []) hC (c_size hzs hb.1.1) cs_Jx4a65c_size_8abf5 q_201 q_202 q_203 (hb.1.1) (by decide) rfl dX7_addBook_4 rfl rfl ⟨Nat.le_of_ble_eq_true rfl, Nat.le_of_ble_eq_true rfl⟩ (Nat.le_of_ble_eq_true rfl) ⟨Nat.le_of_ble_eq_true rfl, Nat.le_of_ble_eq_true rfl⟩ (fun v4 S4 p4 => ?_) (fun _ x => x.elim)
  obtain ⟨rfl, e4⟩ := p4
  rw [e4, hb.1.2.1]
  refine r_iconst (v := nI 4) hC dX7_addBook_7 (by decide) ?_
  refine r_iclt (tgt := 21) hC dX7_addBook_8 (by decide) (fun h8 => ?_) (fun h8 => ?_)
  rotate_left
  · have e : aNb A = 4 := by
      have : ¬ aNb A < 4 := fun w => h8 (nI_lt w (by decide))
      omega
    exact r_throw (i := 0) (E := eIS) (names := ["java/lang/RuntimeException", "java/lang/Exception"]) hC hQ hT ⟨0, by unfold oAddBook; rw [if_pos e], rfl⟩ (by decide +kernel) (by decide +kernel) q_241 q_83 rfl hat_60 hot_60 dX7_addBook_11 dX7_addBook_14 dX7_addBook_15 dX7_addBook_17 dX7_addBook_20 (Nat.le_of_ble_eq_true rfl) (Nat.le_of_ble_eq_true rfl) (Nat.le_of_ble_eq_true rfl) (Nat.le_of_ble_eq_true rfl)
  · have hn4 : aNb A < 4 := (nI_ltI (by omega) (by omega)).mp h8
    refine r_aload_n hC dX7_addBook_21 rfl rfl ?_
    refine r_getR  hC fl_X7_12 dX7_addBook_22 (hr.1) (hr.2.1) ?_
    refine r_new hC nw_X7_63 dX7_addBook_25 (Nat.le_of_ble_eq_true rfl) (Nat.le_of_ble_eq_true rfl) (fun q25 hq25 hg25 => ?_)
    refine r_dup hC dX7_addBook_28 rfl ?_
    refine r_cIN (as := []) hC (c_Book_init hzs kd_newO) cs_X0_init q_312 q_313 rfl dX7_addBook_29 rfl rfl ⟨Nat.le_of_ble_eq_true rfl, Nat.le_of_ble_eq_true rfl⟩ (Nat.le_of_ble_eq_true rfl) ⟨Nat.le_of_ble_eq_true rfl, Nat.le_of_ble_eq_true rfl⟩ (fun v29 S29 p29 => ?_) (fun _ x => x.elim)
    obtain ⟨rfl, p, e, c, r, np, ne, nc, nr, hbk, i4, i5, ap, ae, ac, hex⟩ := p29
    have np' := nin_W np
    have ne' := nin_W ne
    have nc' := nin_W nc
    have nr' := nin_W nr
    have hx1 : Ex S S29 x2 x2 x0 x0 := Ex.trM (Ex.newO hq25) hex (fun f y hy e => hq25 (e ▸ hy)) (fun f y hy e => hq25 (e ▸ hy)) (fun _ _ h => h) (fun _ _ h => h)
    have hl29 : isList G S29 (wLb W) (aNb A) 0 (wBk W) := hb.1.ex hx1 (fun z => z) (fun z => z) (fun _ _ z => z)
    refine r_hge hC (fun hg29 => ?_)
    refine r_cV (as := [va_rf (some q25)]) hC (c_add hzs hl29 (by omega) hg29 hbk.1 (r := (RX0, TX0, 6)) (by decide) rfl q_1204) cs_Jx4a65c_add_9ea2d q_338 q_339 q_340 (hl29.1) (by decide) rfl dX7_addBook_32 rfl rfl ⟨Nat.le_of_ble_eq_true rfl, Nat.le_of_ble_eq_true rfl⟩ (Nat.le_of_ble_eq_true rfl) ⟨Nat.le_of_ble_eq_true rfl, Nat.le_of_ble_eq_true rfl⟩ (fun v32 S32 p32 => ?_) (fun _ x => x.elim)
    obtain ⟨rfl, ha1, ha2, ha3⟩ := p32
    refine r_hge hC (fun hg32 => ?_)
    have r29 : pR S29 289 (wLb W) = pR S 289 (wLb W) := (hx1 _ hb.1.1.1).2.2.2.2.1 289 (fun z => z)
    have hxx : Ex S S32 (fun f y => y = wLb W ∧ (f = 288 ∨ f = 290)) (fun f y => y = wLb W ∧ f = 289) x0 (fun y => pR S 289 (wLb W) = some y) := Ex.trM (hx1.mono (fun _ _ z => z.elim) (fun _ _ z => z.elim) (fun _ z => z) (fun _ z => z.elim)) ha2 (fun _ _ _ z => z) (fun _ _ _ z => z) (fun _ _ z => z) (fun _ _ z => r29 ▸ z)
    have hk32 := hxx.kd hr.1
    have r32 : pR S32 224 t = some (wLb W) := ((hxx t hr.1.1).2.2.2.2.1 224 (fun z => absurd z.2 (by decide))).trans hr.2.1
    refine r_pop hC dX7_addBook_35 rfl ?_
    refine r_aload_n hC dX7_addBook_36 rfl rfl ?_
    refine r_getR  hC fl_X7_12 dX7_addBook_37 (hk32) (r32) ?_
    refine r_cV (as := []) hC (c_size hzs ha1.1) cs_Jx4a65c_size_8abf5 q_201 q_202 q_203 (ha1.1) (by decide) rfl dX7_addBook_40 rfl rfl ⟨Nat.le_of_ble_eq_true rfl, Nat.le_of_ble_eq_true rfl⟩ (Nat.le_of_ble_eq_true rfl) ⟨Nat.le_of_ble_eq_true rfl, Nat.le_of_ble_eq_true rfl⟩ (fun v40 S40 p40 => ?_) (fun _ x => x.elim)
    obtain ⟨rfl, e40⟩ := p40
    rw [e40, ha1.2.1]
    refine r_iconst (v := nI 1) hC dX7_addBook_43 (by decide) ?_
    refine r_isub hC dX7_addBook_44 ?_
    refine r_iret hC hQ rfl dX7_addBook_45 (Nat.le_of_ble_eq_true rfl) (Nat.le_of_ble_eq_true rfl) ?_
    rw [show (nI (aNb A + 1) - nI 1 : Int32) = nI (aNb A) from pk_sub (by omega)]
    have eo : oAddBook A = (0, nI (aNb A), uD (bkA A (aNb A) (fun _ => 0) (fun _ => 0) (fun _ => 0) 0) 0 0 0 0 (aNb A + 1)) := by unfold oAddBook; rw [if_neg (by omega)]
    rw [eo]
    refine ⟨rfl, rfl, tgx S tg (fun y => if y = q25 then 100 + aNb A else if y = p then 200 + aNb A else if y = e then 300 + aNb A else if y = c then 400 + aNb A else if y = r then 500 + aNb A else 21), uW (uW (uW (uW (uW W 1 (aNb A) q25) 2 (aNb A) p) 3 (aNb A) e) 4 (aNb A) c) 5 (aNb A) r, ?_, ?_⟩
    · have hgz : ∀ y, y ∈ pL S → tgx S tg (fun y => if y = q25 then 100 + aNb A else if y = p then 200 + aNb A else if y = e then 300 + aNb A else if y = c then 400 + aNb A else if y = r then 500 + aNb A else 21) y = tg y := tgx_o
      obtain ⟨m1, m2, m3, m4, m5, m6⟩ := hbk.2.2.2.2.2.2.2.2.2.2.2.2.2
      have tq : ∀ y v, y ∉ pL S → (fun y => if y = q25 then 100 + aNb A else if y = p then 200 + aNb A else if y = e then 300 + aNb A else if y = c then 400 + aNb A else if y = r then 500 + aNb A else 21) y = v → tgx S tg (fun y => if y = q25 then 100 + aNb A else if y = p then 200 + aNb A else if y = e then 300 + aNb A else if y = c then 400 + aNb A else if y = r then 500 + aNb A else 21) y = v := fun y v h1 h2 => (tgx_n h1).trans h2
      have arrL : ∀ y, y ∈ pL S → pR S 289 (wLb W) = some y → tg y = 21 := fun y hy z => hb.2.2.1 y z hy
      have hbk32 : isBk S32 q25 p e c r := hbk.ex ha2 (fun f hf z => by omega)
      have kq := hbk.1.1
      have hvA : VU (uD (bkA A (aNb A) (fun _ => 0) (fun _ => 0) (fun _ => 0) 0) 0 0 0 0 (aNb A + 1)) := by
        obtain ⟨v1, v2, v3, v4, v5, v6, v7, v8, v9, v10, v11⟩ := hv
        refine ⟨hn4, v2, v3, v4, fun i hi => ?_, fun o ho => ?_, v7, v8, v9, v10, v11⟩
        · show aSz (bkA A (aNb A) (fun _ => 0) (fun _ => 0) (fun _ => 0) 0) i ≤ 8 ∧ VB (aPs (bkA A (aNb A) (fun _ => 0) (fun _ => 0) (fun _ => 0) 0) i) (aBt (bkA A (aNb A) (fun _ => 0) (fun _ => 0) (fun _ => 0) 0) i) (aCv (bkA A (aNb A) (fun _ => 0) (fun _ => 0) (fun _ => 0) 0) i) (aSz (bkA A (aNb A) (fun _ => 0) (fun _ => 0) (fun _ => 0) 0) i)
          by_cases hin : i = aNb A
          · subst hin
            rw [bkA_sz.1]
            exact ⟨by decide, fun i hi => absurd hi (by omega)⟩
          · obtain ⟨g1, g2, g3, g4⟩ := bkA_o (A := A) (f1 := fun _ => 0) (f2 := fun _ => 0) (f3 := fun _ => 0) (n := 0) hin
            rw [g1, g2, g3, g4]
            exact v5 i (by have : i < aNb A + 1 := hi; omega)
        · obtain ⟨o1, o2⟩ := v6 o ho
          exact ⟨show aOb A o < aNb A + 1 by omega, o2⟩
      refine ⟨⟨hvA, ⟨?_, (hgz _ hb.1.1.1).trans hb.2.1, ?_, fun i hi => ?_⟩, ?_, ?_, ?_⟩, ?_⟩
      · exact ha1.cong (fun i hi => rfl)
      · intro arr h1 h2
        rcases ha3 arr h1 with h | h
        · rw [r29] at h
          have hin : arr ∈ pL S := by
            obtain ⟨-, -, arr2, ra2, harr, -⟩ := hb.1
            rw [show arr = arr2 from Option.some.inj (h.symm.trans ra2)]
            rcases harr with ⟨-, z⟩ | z
            · rw [h.symm.trans ra2 |> Option.some.inj, z] at h2
              exact absurd h2 hg32
            · exact z.1.1
          exact (hgz _ hin).trans (hb.2.2.1 arr h hin)
        · refine tq arr 21 (fun z => h (hx1 arr z).1) ?_
          have : arr ≠ q25 ∧ arr ≠ p ∧ arr ≠ e ∧ arr ≠ c ∧ arr ≠ r := ⟨fun z => h (z ▸ hbk.1.1), fun z => h (z ▸ hbk.2.2.2.2.2.1.1), fun z => h (z ▸ hbk.2.2.2.2.2.2.2.1.1), fun z => h (z ▸ hbk.2.2.2.2.2.2.2.2.2.1.1), fun z => h (z ▸ hbk.2.2.2.2.2.2.2.2.2.2.2.1.1)⟩
          simp only [if_neg this.1, if_neg this.2.1, if_neg this.2.2.1, if_neg this.2.2.2.1, if_neg this.2.2.2.2]
      · have hi' : i < aNb A + 1 := hi
        by_cases hin : i = aNb A
        · subst hin
          have e0 : aRow (uD (bkA A (aNb A) (fun _ => 0) (fun _ => 0) (fun _ => 0) 0) 0 0 0 0 (aNb A + 1)) (aNb A) = [] := bkA_row
          have ew1 : uW (uW (uW (uW (uW W 1 (aNb A) q25) 2 (aNb A) p) 3 (aNb A) e) 4 (aNb A) c) 5 (aNb A) r 1 (aNb A) 0 = q25 := by simp [uW]
          have ew2 : uW (uW (uW (uW (uW W 1 (aNb A) q25) 2 (aNb A) p) 3 (aNb A) e) 4 (aNb A) c) 5 (aNb A) r 2 (aNb A) 0 = p := by simp [uW]
          have ew3 : uW (uW (uW (uW (uW W 1 (aNb A) q25) 2 (aNb A) p) 3 (aNb A) e) 4 (aNb A) c) 5 (aNb A) r 3 (aNb A) 0 = e := by simp [uW]
          have ew4 : uW (uW (uW (uW (uW W 1 (aNb A) q25) 2 (aNb A) p) 3 (aNb A) e) 4 (aNb A) c) 5 (aNb A) r 4 (aNb A) 0 = c := by simp [uW]
          have ew5 : uW (uW (uW (uW (uW W 1 (aNb A) q25) 2 (aNb A) p) 3 (aNb A) e) 4 (aNb A) c) 5 (aNb A) r 5 (aNb A) 0 = r := by simp [uW]
          show BK1 _ _ _ _ (uW (uW (uW (uW (uW W 1 (aNb A) q25) 2 (aNb A) p) 3 (aNb A) e) 4 (aNb A) c) 5 (aNb A) r 1 (aNb A) 0) (uW (uW (uW (uW (uW W 1 (aNb A) q25) 2 (aNb A) p) 3 (aNb A) e) 4 (aNb A) c) 5 (aNb A) r 2 (aNb A) 0) (uW (uW (uW (uW (uW W 1 (aNb A) q25) 2 (aNb A) p) 3 (aNb A) e) 4 (aNb A) c) 5 (aNb A) r 3 (aNb A) 0) (uW (uW (uW (uW (uW W 1 (aNb A) q25) 2 (aNb A) p) 3 (aNb A) e) 4 (aNb A) c) 5 (aNb A) r 4 (aNb A) 0) (uW (uW (uW (uW (uW W 1 (aNb A) q25) 2 (aNb A) p) 3 (aNb A) e) 4 (aNb A) c) 5 (aNb A) r 5 (aNb A) 0)
          rw [ew1, ew2, ew3, ew4, ew5]
          refine ⟨hbk32, tq _ _ hq25 (if_pos rfl), tq _ _ np'.1 ?_, tq _ _ ne'.1 ?_, tq _ _ nc'.1 ?_, tq _ _ nr'.1 ?_, ?_, ?_, ?_, ?_, ?_, ?_⟩
          · simp only [if_neg np'.2, if_true]
          · simp only [if_neg ne'.2, if_neg (fun z => m1 (Eq.symm z)), if_true]
          · simp only [if_neg nc'.2, if_neg (fun z => m2 (Eq.symm z)), if_neg (fun z => m4 (Eq.symm z)), if_true]
          · simp only [if_neg nr'.2, if_neg (fun z => m3 (Eq.symm z)), if_neg (fun z => m5 (Eq.symm z)), if_neg (fun z => m6 (Eq.symm z)), if_true]
          · rw [(ha2 q25 kq).2.2.2.1 4 (fun z => by omega), i4]
            exact congrArg nI (show 0 = aSz (bkA A (aNb A) (fun _ => 0) (fun _ => 0) (fun _ => 0) 0) (aNb A) from bkA_sz.1.symm)
          · unfold aLen
            rw [(ha2 q25 kq).2.2.2.1 5 (fun z => by omega), i5, e0]
            rfl
          · exact ((ha2 p hbk.2.2.2.2.2.1.1).2.2.2.2.2.1 (fun z => z)).trans (ap.trans (show _ = aPs (bkA A (aNb A) (fun _ => 0) (fun _ => 0) (fun _ => 0) 0) (aNb A) from bkA_sz.2.1.symm))
          · exact ((ha2 e hbk.2.2.2.2.2.2.2.1.1).2.2.2.2.2.1 (fun z => z)).trans (ae.trans (show _ = aBt (bkA A (aNb A) (fun _ => 0) (fun _ => 0) (fun _ => 0) 0) (aNb A) from bkA_sz.2.2.1.symm))
          · exact ((ha2 c hbk.2.2.2.2.2.2.2.2.2.1.1).2.2.2.2.2.1 (fun z => z)).trans (ac.trans (show _ = aCv (bkA A (aNb A) (fun _ => 0) (fun _ => 0) (fun _ => 0) 0) (aNb A) from bkA_sz.2.2.2.symm))
          · rw [e0]
            exact fun j hj => absurd hj (by simp)
        · have ew : ∀ k a b c d f, uW (uW (uW (uW (uW W 1 (aNb A) a) 2 (aNb A) b) 3 (aNb A) c) 4 (aNb A) d) 5 (aNb A) f k i 0 = W k i 0 := by
            intro k a b c d f
            simp only [uW, if_neg hin, ite_self]
          show BK1 _ _ _ _ (uW _ _ _ _ 1 i 0) (uW _ _ _ _ 2 i 0) (uW _ _ _ _ 3 i 0) (uW _ _ _ _ 4 i 0) (uW _ _ _ _ 5 i 0)
          rw [ew 1, ew 2, ew 3, ew 4, ew 5]
          obtain ⟨k0, k1, k2, k3, k4, k5, k6, k7, k8, k9, k10, k11⟩ := (hb.2.2.2 i (by omega)).ex hxx hgz (fun f y h z => by omega) (fun f y h z => by omega) (fun _ _ _ z => z) (by omega)
          obtain ⟨g1, g2, g3, g4⟩ := bkA_o (A := A) (f1 := fun _ => 0) (f2 := fun _ => 0) (f3 := fun _ => 0) (n := 0) hin
          have g5 := bkA_rowo (A := A) (f1 := fun _ => 0) (f2 := fun _ => 0) (f3 := fun _ => 0) (n := 0) hin
          refine ⟨k0, k1, k2, k3, k4, k5, k6.trans (congrArg nI g1.symm), k7.trans (congrArg nI (congrArg List.length g5.symm)), k8.trans g2.symm, k9.trans g3.symm, k10.trans g4.symm, ?_⟩
          show holds _ (aRow (bkA A (aNb A) (fun _ => 0) (fun _ => 0) (fun _ => 0) 0) i)
          rw [g5]
          exact k11
      · refine CLo.cA (A := A) (CLo.cW (W := W) ?_ hv (fun i hi => rfl) (fun i hi => ?_) (fun o ho => ⟨rfl, rfl, rfl, rfl⟩) (fun j hj => ⟨rfl, rfl⟩)) rfl rfl rfl rfl rfl rfl rfl rfl
        · exact ho.ex hv hs.sc hxx hgz hg32 (fun f y h1 h2 z => by omega) (fun f y h1 h2 z => by omega) (fun y hy h z => by have := arrL y hy z; omega) (fun y h z => by have := hb.2.1; rw [z.1] at h; omega) (fun y h z => by have := hb.2.1; rw [z.1] at h; omega)
        · simp only [uW, if_neg (show ¬ i = aNb A by omega), ite_self]
      · refine CLs.cA (A := A) (CLs.cW (W := W) ?_ (Nat.le_refl _) (fun i hi => rfl) (fun o ho => rfl) (fun j hj => ⟨rfl, rfl, rfl, rfl, rfl⟩)) rfl rfl rfl rfl rfl rfl
        exact hs.ex hv ho.lv hxx hgz hg32 (fun f y h z => by omega) (fun f y h z => by omega) (fun _ _ z => z) (fun y hy h z => by have := arrL y hy z; omega) (fun z => by have := hb.2.1; have := hs.2.1; rw [z.1] at this; omega) (fun z => by have := hb.2.1; have := hs.2.1; rw [z.1] at this; omega)
      · refine CLr.cA (A := A) (CLr.cW (W := W) ?_ rfl) rfl rfl (fun _ => rfl) rfl
        exact hr.ex hxx hgz (fun f y h z => by omega) (fun f y h z => by omega) (fun _ _ z => z)
      · intro o hoo c f hf h1 h2
        have hob := (hv.2.2.2.2.2.1 o hoo).1
        show f < (aRow (bkA A (aNb A) (fun _ => 0) (fun _ => 0) (fun _ => 0) 0) (aOb A o)).length
        rw [bkA_rowo (show aOb A o ≠ aNb A by omega)]
        exact hF o hoo c f hf h1 h2
    · exact FrC.of hxx tgx_o (fun f y z => by omega) (fun f y z => by omega) (fun _ z => z.elim)
end BooksC

