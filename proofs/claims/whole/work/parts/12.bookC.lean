/-! ===== books: the row laid anew; drawings put in, taken out, moved ===== -/
theorem bkS_A {S : PS} {b r x : Nat} {g : Nat → Int32} {v : Int32} (h : x ≠ r) : pA (bkS S b r g v) x = pA S x := va_up_ne (pA S) g h
theorem bkS_r {S : PS} {b r : Nat} {g : Nat → Int32} {v : Int32} : pA (bkS S b r g v) r = g := va_up_self (pA S) r g
theorem bk_of_I (S : PS) (b r : Nat) (v : Int32) : sI S 5 b v = bkS S b r (pA S r) v := by
  simp only [bkS, sI, sA]
  rw [va_up_id (f := S.2.2.2.2.2.1) rfl]
def bkD (S : PS) (p e c : Nat) (f1 f2 f3 : Nat → Int32) : PS := sA (sA (sA S p f1) e f2) c f3
theorem va_up_comm {α : Type} (f : Nat → α) {a b : Nat} (v w : α) (h : a ≠ b) : va_up (va_up f a v) b w = va_up (va_up f b w) a v := by
  funext x
  simp only [va_up]
  by_cases h1 : x = a
  · subst h1; simp [h]
  · simp [h1]
theorem A_s (S : PS) (a : Nat) (g : Nat → Int32) : pA (sA S a g) a = g := va_up_self (pA S) a g
theorem A_n (S : PS) {a x : Nat} (g : Nat → Int32) (h : x ≠ a) : pA (sA S a g) x = pA S x := va_up_ne (pA S) g h
theorem sA_sA (S : PS) (a : Nat) (g g' : Nat → Int32) : sA (sA S a g) a g' = sA S a g' := by simp only [sA, va_up_up]
theorem sA_comm (S : PS) {a b : Nat} (g g' : Nat → Int32) (h : a ≠ b) : sA (sA S a g) b g' = sA (sA S b g') a g := by simp only [sA, va_up_comm _ _ _ h]
theorem sA_id (S : PS) {a : Nat} {g : Nat → Int32} (h : pA S a = g) : sA S a g = S := by
  simp only [sA]
  rw [va_up_id (f := S.2.2.2.2.2.1) h]
theorem sI_id (S : PS) {f a : Nat} {v : Int32} (h : pI S f a = v) : sI S f a v = S := by
  simp only [sI]
  rw [u2_id (f := S.2.2.1) h]
theorem sI_sA (S : PS) (f a x : Nat) (v : Int32) (g : Nat → Int32) : sI (sA S x g) f a v = sA (sI S f a v) x g := rfl
section BookC
variable {l : Launch} {G : GG} {S : PS} {b p e c r : Nat}
theorem bkD_p {f1 f2 f3 : Nat → Int32} (h1 : p ≠ e) (h2 : p ≠ c) : pA (bkD S p e c f1 f2 f3) p = f1 := by rw [bkD, A_n _ _ h2, A_n _ _ h1, A_s]
theorem bkD_e {f1 f2 f3 : Nat → Int32} (h3 : e ≠ c) : pA (bkD S p e c f1 f2 f3) e = f2 := by rw [bkD, A_n _ _ h3, A_s]
theorem bkD_c {f1 f2 f3 : Nat → Int32} : pA (bkD S p e c f1 f2 f3) c = f3 := by rw [bkD, A_s]
theorem bkD_o {f1 f2 f3 : Nat → Int32} {x : Nat} (h1 : x ≠ p) (h2 : x ≠ e) (h3 : x ≠ c) : pA (bkD S p e c f1 f2 f3) x = pA S x := by rw [bkD, A_n _ _ h3, A_n _ _ h2, A_n _ _ h1]
theorem bkD_D {f1 f2 f3 g1 g2 g3 : Nat → Int32} (h1 : p ≠ e) (h2 : p ≠ c) (h3 : e ≠ c) : bkD (bkD S p e c f1 f2 f3) p e c g1 g2 g3 = bkD S p e c g1 g2 g3 := by
  simp only [bkD]
  rw [sA_comm _ f3 g1 h2.symm, sA_comm _ f2 g1 h1.symm, sA_sA, sA_comm _ f3 g2 h3.symm, sA_sA, sA_sA]
theorem bkD_id (h1 : p ≠ e) (h2 : p ≠ c) (h3 : e ≠ c) : bkD S p e c (pA S p) (pA S e) (pA S c) = S := by
  rw [bkD, sA_id S rfl, sA_id S rfl, sA_id S rfl]
set_option maxRecDepth 100000 in
set_option maxHeartbeats 1000000 in
theorem c_copyDrawing (hl : l.stackTraces = false) (hb : isBk S b p e c r) {i j : Nat} (hi : i < 8) (hj : j < 8) :
    MT l G S yX0_copyDrawing cX0_copyDrawing 3 none (rmA 0) [va_rf (some b), .int (nI i), .int (nI j)] (fun v S' => v = none ∧ S' = bkD S p e c (upd (pA S p) j (pA S p i)) (upd (pA S e) j (pA S e i)) (upd (pA S c) j (pA S c i))) (fun _ => False) := by
  obtain ⟨kb, rp, re, rc, rr, kp, np, ke, ne, kc, nc, kr, nr, h1, h2, h3, h4, h5, h6⟩ := hb
  refine MT_of (by decide +kernel) hl rfl (Nat.le_of_ble_eq_true rfl) (fun Z hC _ hnm hT hQ => ?_)
  change J G Z S 0 0 0 [some (va_rf (some b)), some (.int (nI i)), some (.int (nI j))] []
  refine r_aload_n hC dX0_copyDrawing_0 rfl rfl ?_
  refine r_getR  hC fl_X0_9 dX0_copyDrawing_1 (kb) (rp) ?_
  refine r_iload_n hC dX0_copyDrawing_4 rfl rfl ?_
  refine r_aload_n hC dX0_copyDrawing_5 rfl rfl ?_
  refine r_getR  hC fl_X0_9 dX0_copyDrawing_6 (kb) (rp) ?_
  refine r_iload_n hC dX0_copyDrawing_9 rfl rfl ?_
  refine r_iald hC dX0_copyDrawing_10 (kp) (rfl) (by rw [np]; exact hi) (by rw [np]; decide) (rfl) ?_
  refine r_iast hC dX0_copyDrawing_11 (kp) (rfl) (by rw [np]; exact hj) (by rw [np]; decide) ?_
  refine r_aload_n hC dX0_copyDrawing_12 rfl rfl ?_
  refine r_getR  hC fl_X0_15 dX0_copyDrawing_13 (kb) (re) ?_
  refine r_iload_n hC dX0_copyDrawing_16 rfl rfl ?_
  refine r_aload_n hC dX0_copyDrawing_17 rfl rfl ?_
  refine r_getR  hC fl_X0_15 dX0_copyDrawing_18 (kb) (re) ?_
  refine r_iload_n hC dX0_copyDrawing_21 rfl rfl ?_
  refine r_iald hC dX0_copyDrawing_22 (ke) (rfl) (show i < pN S e by rw [ne]; exact hi) (show pN S e < 2147483648 by rw [ne]; decide) (rfl) ?_
  refine r_iast hC dX0_copyDrawing_23 (ke) (rfl) (show j < pN S e by rw [ne]; exact hj) (show pN S e < 2147483648 by rw [ne]; decide) ?_
  refine r_aload_n hC dX0_copyDrawing_24 rfl rfl ?_
  refine r_getR  hC fl_X0_18 dX0_copyDrawing_25 (kb) (rc) ?_
  refine r_iload_n hC dX0_copyDrawing_28 rfl rfl ?_
  refine r_aload_n hC dX0_copyDrawing_29 rfl rfl ?_
  refine r_getR  hC fl_X0_18 dX0_copyDrawing_30 (kb) (rc) ?_
  refine r_iload_n hC dX0_copyDrawing_33 rfl rfl ?_
  refine r_iald hC dX0_copyDrawing_34 (kc) (rfl) (show i < pN S c by rw [nc]; exact hi) (show pN S c < 2147483648 by rw [nc]; decide) (rfl) ?_
  refine r_iast hC dX0_copyDrawing_35 (kc) (rfl) (show j < pN S c by rw [nc]; exact hj) (show pN S c < 2147483648 by rw [nc]; decide) ?_
  refine r_vret hC hQ rfl dX0_copyDrawing_36 (Nat.le_of_ble_eq_true rfl) (Nat.le_of_ble_eq_true rfl) ?_
  refine ⟨rfl, ?_⟩
  rw [A_n _ _ h4.symm, A_n _ _ h2.symm, A_n _ _ h1.symm, bkD]
set_option maxRecDepth 100000 in
set_option maxHeartbeats 1000000 in
theorem c_layFrames (hl : l.stackTraces = false) (hb : isBk S b p e c r) {n : Nat} (hn : pI S 4 b = nI n) (h8 : n ≤ 8) (hv : VB (pA S p) (pA S e) (pA S c) n) :
    MT l G S yX0_layFrames cX0_layFrames 2 none (rmA 2) [va_rf (some b)] (fun v S' => v = none ∧ ∃ g, S' = bkS S b r g (nI (frs (pA S p) (pA S e) (pA S c) n n).length) ∧ holds g (frs (pA S p) (pA S e) (pA S c) n n)) (fun _ => False) := by
  obtain ⟨kb, rp, re, rc, rr, kp, np, ke, ne, kc, nc, kr, nr, x1, x2, x3, x4, x5, x6⟩ := id hb
  refine MT_of (by decide +kernel) hl rfl (Nat.le_of_ble_eq_true rfl) (fun Z hC hzl hnm hT hQ => ?_)
  change J G Z S 0 0 0 [some (va_rf (some b)), none] []
  have hzs : (zl Z).stackTraces = false := by rw [hzl]; exact hl
  have loop : ∀ (d i : Nat) (g : Nat → Int32), i + d = n → holds g (frs (pA S p) (pA S e) (pA S c) n i) →
      J G Z (bkS S b r g (nI (frs (pA S p) (pA S e) (pA S c) n i).length)) 0 0 7 [some (va_rf (some b)), some (.int (nI i))] [] := by
    intro d
    induction d with
    | zero =>
      intro i g hi h1
      have hi : i = n := by omega
      subst hi
      refine r_iload_n hC dX0_layFrames_7 rfl rfl ?_
      refine r_aload_n hC dX0_layFrames_8 rfl rfl ?_
      refine r_getI hC fl_X0_24 rfl dX0_layFrames_9 (kb) (hn) ?_
      refine r_icge (tgt := 71) hC dX0_layFrames_12 (by decide) (fun h12 => ?_) (fun h12 => ?_)
      · skip
        refine r_vret hC hQ rfl dX0_layFrames_71 (Nat.le_of_ble_eq_true rfl) (Nat.le_of_ble_eq_true rfl) ?_
        exact ⟨rfl, g, rfl, h1⟩
      · exact absurd (nI_le (Nat.le_refl i) (by omega)) h12
    | succ d ih =>
      intro i g hi h1
      have hin : i < n := by omega
      have hlen := frs_len hv i (by omega)
      rw [if_pos hin] at hlen
      obtain ⟨-, ⟨m, hm, em⟩, ⟨k, hk, ek⟩⟩ := hv i hin
      have hbb : ∀ g v, isBk (bkS S b r g v) b p e c r := fun g v => hb
      refine r_iload_n hC dX0_layFrames_7 rfl rfl ?_
      refine r_aload_n hC dX0_layFrames_8 rfl rfl ?_
      refine r_getI hC fl_X0_24 rfl dX0_layFrames_9 (kb) (hn) ?_
      refine r_icge (tgt := 71) hC dX0_layFrames_12 (by decide) (fun h12 => ?_) (fun h12 => ?_)
      · exact absurd ((nI_leI (by omega) (by omega)).mp h12) (by omega)
      · skip
        refine r_aload_n hC dX0_layFrames_15 rfl rfl ?_
        refine r_aload_n hC dX0_layFrames_16 rfl rfl ?_
        refine r_getR  hC fl_X0_9 dX0_layFrames_17 (kb) (rp) ?_
        refine r_iload_n hC dX0_layFrames_20 rfl rfl ?_
        refine r_iald hC dX0_layFrames_21 (kp) (rfl) (show i < pN S p by rw [np]; omega) (show pN S p < 2147483648 by rw [np]; decide) (congrFun (bkS_A x3) i) ?_
        refine r_cV (as := [.int (pA S p i)]) hC (c_addFrame (n := (frs (pA S p) (pA S e) (pA S c) n i).length) hzs (hbb _ _) (bk_I _ _ _ _ _) (by omega) _) cs_X0_addFrame q_464 q_466 q_9 (kb) (by decide) rfl dX0_layFrames_22 rfl rfl ⟨Nat.le_of_ble_eq_true rfl, Nat.le_of_ble_eq_true rfl⟩ (Nat.le_of_ble_eq_true rfl) ⟨Nat.le_of_ble_eq_true rfl, Nat.le_of_ble_eq_true rfl⟩ (fun v22 S22 p22 => ?_) (fun _ x => x.elim)
        obtain ⟨rfl, hS⟩ := p22
        rw [bk_add] at hS
        subst hS
        have e1 : nI i + nI 1 = nI (i + 1) := nI_add i 1
        have hu : ∀ j, j < (frs (pA S p) (pA S e) (pA S c) n i).length → upd g (frs (pA S p) (pA S e) (pA S c) n i).length (pA S p i) j = g j := fun j hj => pk_un (by omega)
        have nxt : ∀ g2, holds g2 (frs (pA S p) (pA S e) (pA S c) n (i + 1)) → J G Z (bkS S b r g2 (nI (frs (pA S p) (pA S e) (pA S c) n (i + 1)).length)) 0 0 65 [some (va_rf (some b)), some (.int (nI i))] [] := by
          intro g2 hg2
          refine r_iinc hC dX0_layFrames_65 rfl (ii1 _) ?_
          refine r_goto (tgt := 7) hC dX0_layFrames_68 (by decide) ?_
          exact ih (i + 1) g2 (by omega) hg2
        refine r_iload_n hC dX0_layFrames_25 rfl rfl ?_
        refine r_iconst (v := nI 1) hC dX0_layFrames_26 (by decide) ?_
        refine r_iadd hC dX0_layFrames_27 ?_
        refine r_aload_n hC dX0_layFrames_28 rfl rfl ?_
        refine r_getI hC fl_X0_24 rfl dX0_layFrames_29 (kb) (hn) ?_
        refine r_icge (tgt := 65) hC dX0_layFrames_32 (by decide) (fun h32 => ?_) (fun h32 => ?_)
        · rw [e1] at h32
          have hin1 : ¬ i + 1 < n := fun z => absurd h32 (nI_ge z (by omega))
          have es : seg (pA S p) (pA S e) (pA S c) n i = [pA S p i] := by unfold seg; rw [if_neg hin1]
          have := nxt (upd g (frs (pA S p) (pA S e) (pA S c) n i).length (pA S p i)) (by
            simp only [frs, es]
            refine holds_add h1 hu (fun j hj => ?_)
            have hj0 : j = 0 := by simp at hj; exact hj
            subst hj0
            exact upd_self _ _ _)
          simp only [frs, es, List.length_append, List.length_cons, List.length_nil] at this
          exact this
        · rw [e1] at h32
          have hin1 : i + 1 < n := Nat.lt_of_not_le (fun z => h32 (nI_le z (by omega)))
          refine r_aload_n hC dX0_layFrames_35 rfl rfl ?_
          refine r_aload_n hC dX0_layFrames_36 rfl rfl ?_
          refine r_getR  hC fl_X0_9 dX0_layFrames_37 (kb) (rp) ?_
          refine r_iload_n hC dX0_layFrames_40 rfl rfl ?_
          refine r_iald hC dX0_layFrames_41 (kp) (rfl) (show i < pN S p by rw [np]; omega) (show pN S p < 2147483648 by rw [np]; decide) (congrFun (bkS_A x3) i) ?_
          refine r_aload_n hC dX0_layFrames_42 rfl rfl ?_
          refine r_getR  hC fl_X0_9 dX0_layFrames_43 (kb) (rp) ?_
          refine r_iload_n hC dX0_layFrames_46 rfl rfl ?_
          refine r_iconst (v := nI 1) hC dX0_layFrames_47 (by decide) ?_
          refine r_iadd hC dX0_layFrames_48 ?_
          refine r_iald hC dX0_layFrames_49 (kp) (e1) (show i + 1 < pN S p by rw [np]; omega) (show pN S p < 2147483648 by rw [np]; decide) (congrFun (bkS_A x3) (i + 1)) ?_
          refine r_aload_n hC dX0_layFrames_50 rfl rfl ?_
          refine r_getR  hC fl_X0_15 dX0_layFrames_51 (kb) (re) ?_
          refine r_iload_n hC dX0_layFrames_54 rfl rfl ?_
          refine r_iald hC dX0_layFrames_55 (ke) (rfl) (show i < pN S e by rw [ne]; omega) (show pN S e < 2147483648 by rw [ne]; decide) ((congrFun (bkS_A x5) i).trans em) ?_
          refine r_aload_n hC dX0_layFrames_56 rfl rfl ?_
          refine r_getR  hC fl_X0_18 dX0_layFrames_57 (kb) (rc) ?_
          refine r_iload_n hC dX0_layFrames_60 rfl rfl ?_
          refine r_iald hC dX0_layFrames_61 (kc) (rfl) (show i < pN S c by rw [nc]; omega) (show pN S c < 2147483648 by rw [nc]; decide) ((congrFun (bkS_A x6) i).trans ek) ?_
          refine r_cV (as := [.int (pA S p i), .int (pA S p (i + 1)), .int (nI m), .int (nI k)]) hC (c_addBetweens (n := (frs (pA S p) (pA S e) (pA S c) n i).length + 1) (m := m) (k := k) hzs (hbb _ _) (bk_I _ _ _ _ _) hm hk (by omega) (pA S p i) (pA S p (i + 1))) cs_X0_addBetweens q_468 q_470 q_10 (kb) (by decide) rfl dX0_layFrames_62 rfl rfl ⟨Nat.le_of_ble_eq_true rfl, Nat.le_of_ble_eq_true rfl⟩ (Nat.le_of_ble_eq_true rfl) ⟨Nat.le_of_ble_eq_true rfl, Nat.le_of_ble_eq_true rfl⟩ (fun v62 S62 p62 => ?_) (fun _ x => x.elim)
          obtain ⟨rfl, g2, hS, hg1, hg2⟩ := p62
          rw [bk_bk] at hS
          rw [bkS_r] at hg1
          subst hS
          have es : seg (pA S p) (pA S e) (pA S c) n i = pA S p i :: (List.range m).map (fun j => mid (pA S p i) (pA S p (i + 1)) (j + 1) (m + 1) k) := by
            unfold seg
            rw [if_pos hin1, em, ek, nI_clamp (by omega), nI_clamp (by omega)]
          have := nxt g2 (by
            simp only [frs, es]
            refine holds_add h1 (fun j hj => by rw [hg1 j (by omega), hu j hj]) (fun j hj => ?_)
            cases j with
            | zero => rw [Nat.add_zero, hg1 _ (by omega), upd_self]; rfl
            | succ j =>
              have hj2 : j < m := by simpa using hj
              rw [show (frs (pA S p) (pA S e) (pA S c) n i).length + (j + 1) = (frs (pA S p) (pA S e) (pA S c) n i).length + 1 + j by omega, hg2 j hj2]
              simp [List.getD, hj2])
          simp only [frs, es, List.length_append, List.length_cons, List.length_map, List.length_range] at this
          rw [show (frs (pA S p) (pA S e) (pA S c) n i).length + (m + 1) = (frs (pA S p) (pA S e) (pA S c) n i).length + 1 + m by omega] at this
          exact this
  refine r_aload_n hC dX0_layFrames_0 rfl rfl ?_
  refine r_iconst (v := nI 0) hC dX0_layFrames_1 (by decide) ?_
  refine r_putI hC fl_X0_28 rfl (by decide) dX0_layFrames_2 (kb) (fun h => absurd h (by decide)) ?_
  refine r_iconst (v := nI 0) hC dX0_layFrames_5 (by decide) ?_
  refine r_istore_n hC dX0_layFrames_6 rfl (by decide) ?_
  rw [show sI S 5 b (nI 0) = bkS S b r (pA S r) (nI (frs (pA S p) (pA S e) (pA S c) n 0).length) from bk_of_I S b r _]
  exact loop n 0 _ (by omega) (fun j hj => absurd hj (by simp [frs]))
end BookC

