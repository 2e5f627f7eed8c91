/-! ===== books: put in, take out, move, a new one ===== -/
/-- the row f of n things with those from a on moved up by one -/
def shI (f : Nat → Int32) (n i : Nat) : Nat → Int32 := fun j => if i < j ∧ j ≤ n then f (j - 1) else f j
def insF (f : Nat → Int32) (n a : Nat) (x : Int32) : Nat → Int32 := upd (shI f n a) a x
def shD (f : Nat → Int32) (a i : Nat) : Nat → Int32 := fun j => if a ≤ j ∧ j + 1 < i then f (j + 1) else f j
theorem shI_0 (f : Nat → Int32) (n : Nat) : shI f n n = f := by
  funext j
  simp only [shI]
  rw [if_neg (by omega)]
theorem shI_s (f : Nat → Int32) {n i : Nat} (h : i + 1 ≤ n) : upd (shI f n (i + 1)) (i + 1) (shI f n (i + 1) i) = shI f n i := by
  funext j
  by_cases hj : j = i + 1
  · subst hj
    rw [upd_self]
    simp only [shI]
    rw [if_neg (by omega), if_pos (by omega)]
    rfl
  · rw [pk_un hj]
    simp only [shI]
    by_cases h1 : i + 1 < j ∧ j ≤ n
    · rw [if_pos h1, if_pos (by omega)]
    · rw [if_neg h1, if_neg (by omega)]
theorem shD_0 (f : Nat → Int32) (a : Nat) : shD f a (a + 1) = f := by
  funext j
  simp only [shD]
  rw [if_neg (by omega)]
theorem shD_s (f : Nat → Int32) {a i : Nat} (h : a < i) : upd (shD f a i) (i - 1) (shD f a i i) = shD f a (i + 1) := by
  funext j
  by_cases hj : j = i - 1
  · subst hj
    rw [upd_self]
    simp only [shD]
    rw [if_neg (by omega), if_pos (by omega)]
    congr 1
    omega
  · rw [pk_un hj]
    simp only [shD]
    by_cases h1 : a ≤ j ∧ j + 1 < i
    · rw [if_pos h1, if_pos (by omega)]
    · rw [if_neg h1, if_neg (by omega)]
theorem VB_ins {p e c : Nat → Int32} {n a x y z : Nat} (h : VB p e c n) (ha : a ≤ n) (hx : x ≤ 999) (hy : y ≤ 5) (hz : z ≤ 3) : VB (insF p n a (nI x)) (insF e n a (nI y)) (insF c n a (nI z)) (n + 1) := by
  intro i hi
  simp only [insF, upd, shI]
  by_cases h1 : i = a
  · simp only [if_pos h1]; exact ⟨⟨x, hx, rfl⟩, ⟨y, hy, rfl⟩, ⟨z, hz, rfl⟩⟩
  · simp only [if_neg h1]
    by_cases h2 : a < i ∧ i ≤ n
    · simp only [if_pos h2]; exact h (i - 1) (by omega)
    · simp only [if_neg h2]; exact h i (by omega)
theorem VB_del {p e c : Nat → Int32} {n a : Nat} (h : VB p e c (n + 1)) (ha : a ≤ n) : VB (shD p a (n + 1)) (shD e a (n + 1)) (shD c a (n + 1)) n := by
  intro i hi
  simp only [shD]
  by_cases h2 : a ≤ i ∧ i + 1 < n + 1
  · simp only [if_pos h2]; exact h (i + 1) (by omega)
  · simp only [if_neg h2]; exact h i (by omega)
theorem VB_put {p e c : Nat → Int32} {n a x : Nat} (h : VB p e c n) (hx : x ≤ 999) : VB (upd p a (nI x)) e c n := by
  intro i hi
  refine ⟨?_, (h i hi).2⟩
  by_cases h1 : i = a
  · subst h1; rw [upd_self]; exact ⟨x, hx, rfl⟩
  · rw [pk_un h1]; exact (h i hi).1
/-- a book's state behind a change: its three rows, how many drawings, its row of frames -/
def bkU (S : PS) (b p e c r : Nat) (f1 f2 f3 : Nat → Int32) (nd : Nat) (g : Nat → Int32) : PS := bkS (sI (bkD S p e c f1 f2 f3) 4 b (nI nd)) b r g (nI (frs f1 f2 f3 nd nd).length)
section BookD
variable {l : Launch} {G : GG} {S : PS} {b p e c r : Nat}
set_option maxRecDepth 100000 in
set_option maxHeartbeats 1000000 in
theorem c_insert (hl : l.stackTraces = false) (hb : isBk S b p e c r) {n a x y z : Nat} (hn : pI S 4 b = nI n) (h8 : n < 8) (hv : VB (pA S p) (pA S e) (pA S c) n) (ha : a ≤ n) (hx : x ≤ 999) (hy : y ≤ 5) (hz : z ≤ 3) :
    MT l G S yX0_insert cX0_insert 6 none (rmA 3) [va_rf (some b), .int (nI a), .int (nI x), .int (nI y), .int (nI z)]
      (fun v S' => v = none ∧ ∃ g, S' = bkU S b p e c r (insF (pA S p) n a (nI x)) (insF (pA S e) n a (nI y)) (insF (pA S c) n a (nI z)) (n + 1) g ∧ holds g (frs (insF (pA S p) n a (nI x)) (insF (pA S e) n a (nI y)) (insF (pA S c) n a (nI z)) (n + 1) (n + 1))) (fun _ => False) := by
  obtain ⟨kb, rp, re, rc, rr, kp, np, ke, ne, kc, nc, kr, nr, x1, x2, x3, x4, x5, x6⟩ := id hb
  refine MT_of (by decide +kernel) hl rfl (Nat.le_of_ble_eq_true rfl) (fun Z hC hzl hnm hT hQ => ?_)
  change J G Z S 0 0 0 [some (va_rf (some b)), some (.int (nI a)), some (.int (nI x)), some (.int (nI y)), some (.int (nI z)), none] []
  have hzs : (zl Z).stackTraces = false := by rw [hzl]; exact hl
  have hbD : ∀ f1 f2 f3, isBk (bkD S p e c f1 f2 f3) b p e c r := fun _ _ _ => hb
  have tail : J G Z (bkD S p e c (shI (pA S p) n a) (shI (pA S e) n a) (shI (pA S c) n a)) 0 0 50 [some (va_rf (some b)), some (.int (nI a)), some (.int (nI x)), some (.int (nI y)), some (.int (nI z)), some (.int (nI a))] [] := by
    refine r_aload_n hC dX0_insert_50 rfl rfl ?_
    refine r_getR  hC fl_X0_9 dX0_insert_51 (kb) (rp) ?_
    refine r_iload_n hC dX0_insert_54 rfl rfl ?_
    refine r_iload_n hC dX0_insert_55 rfl rfl ?_
    refine r_iast hC dX0_insert_56 (kp) (rfl) (show a < pN S p by rw [np]; omega) (show pN S p < 2147483648 by rw [np]; decide) ?_
    refine r_aload_n hC dX0_insert_57 rfl rfl ?_
    refine r_getR  hC fl_X0_15 dX0_insert_58 (kb) (re) ?_
    refine r_iload_n hC dX0_insert_61 rfl rfl ?_
    refine r_iload_n hC dX0_insert_62 rfl rfl ?_
    refine r_iast hC dX0_insert_63 (ke) (rfl) (show a < pN S e by rw [ne]; omega) (show pN S e < 2147483648 by rw [ne]; decide) ?_
    refine r_aload_n hC dX0_insert_64 rfl rfl ?_
    refine r_getR  hC fl_X0_18 dX0_insert_65 (kb) (rc) ?_
    refine r_iload_n hC dX0_insert_68 rfl rfl ?_
    refine r_iload hC dX0_insert_69 rfl ?_
    refine r_iast hC dX0_insert_71 (kc) (rfl) (show a < pN S c by rw [nc]; omega) (show pN S c < 2147483648 by rw [nc]; decide) ?_
    refine r_aload_n hC dX0_insert_72 rfl rfl ?_
    refine r_dup hC dX0_insert_73 rfl ?_
    refine r_getI hC fl_X0_24 rfl dX0_insert_74 (kb) (hn) ?_
    refine r_iconst (v := nI 1) hC dX0_insert_77 (by decide) ?_
    refine r_iadd hC dX0_insert_78 ?_
    refine r_putI hC fl_X0_24 rfl (by decide) dX0_insert_79 (kb) (fun h => absurd h (by decide)) ?_
    refine J.eqS (S' := sI (bkD S p e c (insF (pA S p) n a (nI x)) (insF (pA S e) n a (nI y)) (insF (pA S c) n a (nI z))) 4 b (nI (n + 1))) ?_ ?_
    · rw [A_n _ _ x4.symm, A_n _ _ x2.symm, bkD_c, A_n _ _ x1.symm, bkD_e x4, bkD_p x1 x2, show nI n + nI 1 = nI (n + 1) from nI_add n 1]
      simp only [insF]
      rw [← bkD_D (f1 := shI (pA S p) n a) (f2 := shI (pA S e) n a) (f3 := shI (pA S c) n a) x1 x2 x4]
      rfl
    · have hb2 : isBk (sI (bkD S p e c (insF (pA S p) n a (nI x)) (insF (pA S e) n a (nI y)) (insF (pA S c) n a (nI z))) 4 b (nI (n + 1))) b p e c r := hb
      have e1 : pA (sI (bkD S p e c (insF (pA S p) n a (nI x)) (insF (pA S e) n a (nI y)) (insF (pA S c) n a (nI z))) 4 b (nI (n + 1))) p = insF (pA S p) n a (nI x) := bkD_p x1 x2
      have e2 : pA (sI (bkD S p e c (insF (pA S p) n a (nI x)) (insF (pA S e) n a (nI y)) (insF (pA S c) n a (nI z))) 4 b (nI (n + 1))) e = insF (pA S e) n a (nI y) := bkD_e x4
      have e3 : pA (sI (bkD S p e c (insF (pA S p) n a (nI x)) (insF (pA S e) n a (nI y)) (insF (pA S c) n a (nI z))) 4 b (nI (n + 1))) c = insF (pA S c) n a (nI z) := bkD_c
      have hlay := c_layFrames (l := zl Z) (G := G) hzs hb2 (n := n + 1) (u2_s (pI S) 4 b _) (by omega) (by rw [e1, e2, e3]; exact VB_ins hv ha hx hy hz)
      rw [e1, e2, e3] at hlay
      refine r_aload_n hC dX0_insert_82 rfl rfl ?_
      refine r_cV (as := []) hC (hlay) cs_X0_layFrames q_460 q_462 q_8 (kb) (by decide) rfl dX0_insert_83 rfl rfl ⟨Nat.le_of_ble_eq_true rfl, Nat.le_of_ble_eq_true rfl⟩ (Nat.le_of_ble_eq_true rfl) ⟨Nat.le_of_ble_eq_true rfl, Nat.le_of_ble_eq_true rfl⟩ (fun v83 S83 p83 => ?_) (fun _ x => x.elim)
      obtain ⟨rfl, g, rfl, hg⟩ := p83
      refine r_vret hC hQ rfl dX0_insert_86 (Nat.le_of_ble_eq_true rfl) (Nat.le_of_ble_eq_true rfl) ?_
      exact ⟨rfl, g, rfl, hg⟩
  have loop : ∀ (d i : Nat), a + d = i → i ≤ n → J G Z (bkD S p e c (shI (pA S p) n i) (shI (pA S e) n i) (shI (pA S c) n i)) 0 0 28 [some (va_rf (some b)), some (.int (nI a)), some (.int (nI x)), some (.int (nI y)), some (.int (nI z)), some (.int (nI i))] [] := by
    intro d
    induction d with
    | zero =>
      intro i hi hin
      have hi : i = a := by omega
      subst hi
      refine r_iload hC dX0_insert_28 rfl ?_
      refine r_iload_n hC dX0_insert_30 rfl rfl ?_
      refine r_icle (tgt := 50) hC dX0_insert_31 (by decide) (fun h31 => ?_) (fun h31 => ?_)
      · exact tail
      · exact absurd (nI_le (Nat.le_refl i) (by omega)) h31
    | succ d ih =>
      intro i hi hin
      obtain ⟨i, rfl⟩ : ∃ i', i = i' + 1 := ⟨i - 1, by omega⟩
      refine r_iload hC dX0_insert_28 rfl ?_
      refine r_iload_n hC dX0_insert_30 rfl rfl ?_
      refine r_icle (tgt := 50) hC dX0_insert_31 (by decide) (fun h31 => ?_) (fun h31 => ?_)
      · exact absurd ((nI_leI (by omega) (by omega)).mp h31) (by omega)
      · skip
        have hcp := c_copyDrawing (l := zl Z) (G := G) hzs (hbD (shI (pA S p) n (i + 1)) (shI (pA S e) n (i + 1)) (shI (pA S c) n (i + 1))) (i := i) (j := i + 1) (by omega) (by omega)
        rw [bkD_p x1 x2, bkD_e x4, bkD_c, bkD_D x1 x2 x4, shI_s _ hin, shI_s _ hin, shI_s _ hin] at hcp
        rw [← nI_pred i] at hcp
        refine r_aload_n hC dX0_insert_34 rfl rfl ?_
        refine r_iload hC dX0_insert_35 rfl ?_
        refine r_iconst (v := nI 1) hC dX0_insert_37 (by decide) ?_
        refine r_isub hC dX0_insert_38 ?_
        refine r_iload hC dX0_insert_39 rfl ?_
        refine r_cV (as := [.int (nI (i + 1) - 1), .int (nI (i + 1))]) hC (hcp) cs_X0_copyDrawing q_456 q_458 q_7 (kb) (by decide) rfl dX0_insert_41 rfl rfl ⟨Nat.le_of_ble_eq_true rfl, Nat.le_of_ble_eq_true rfl⟩ (Nat.le_of_ble_eq_true rfl) ⟨Nat.le_of_ble_eq_true rfl, Nat.le_of_ble_eq_true rfl⟩ (fun v41 S41 p41 => ?_) (fun _ x => x.elim)
        obtain ⟨rfl, rfl⟩ := p41
        refine r_iinc hC dX0_insert_44 rfl (iim1 _) ?_
        refine r_goto (tgt := 28) hC dX0_insert_47 (by decide) ?_
        exact ih i (by omega) (by omega)
  have go : J G Z S 0 0 22 [some (va_rf (some b)), some (.int (nI a)), some (.int (nI x)), some (.int (nI y)), some (.int (nI z)), none] [] := by
    refine r_aload_n hC dX0_insert_22 rfl rfl ?_
    refine r_getI hC fl_X0_24 rfl dX0_insert_23 (kb) (hn) ?_
    refine r_istore hC dX0_insert_26 (by decide) ?_
    have h := loop (n - a) n (by omega) (Nat.le_refl _)
    rw [shI_0, shI_0, shI_0, bkD_id x1 x2 x4] at h
    exact h
  refine r_iload_n hC dX0_insert_0 rfl rfl ?_
  refine r_iflt (tgt := 21) hC dX0_insert_1 (by decide) (fun h1 => ?_) (fun h1 => ?_)
  · exact absurd h1 (nI_pos (by omega))
  · skip
    refine r_iload_n hC dX0_insert_4 rfl rfl ?_
    refine r_aload_n hC dX0_insert_5 rfl rfl ?_
    refine r_getI hC fl_X0_24 rfl dX0_insert_6 (kb) (hn) ?_
    refine r_icgt (tgt := 21) hC dX0_insert_9 (by decide) (fun h9 => ?_) (fun h9 => ?_)
    · exact absurd ((nI_ltI (by omega) (by omega)).mp h9) (by omega)
    · skip
      refine r_aload_n hC dX0_insert_12 rfl rfl ?_
      refine r_getI hC fl_X0_24 rfl dX0_insert_13 (kb) (hn) ?_
      refine r_bipush (v := nI 8) hC dX0_insert_16 (by decide) ?_
      refine r_iclt (tgt := 22) hC dX0_insert_18 (by decide) (fun h18 => ?_) (fun h18 => ?_)
      · exact go
      · exact absurd (nI_lt h8 (by omega)) h18
set_option maxRecDepth 100000 in
set_option maxHeartbeats 1000000 in
theorem c_takeOut (hl : l.stackTraces = false) (hb : isBk S b p e c r) {n a : Nat} (hn : pI S 4 b = nI (n + 1)) (h8 : n < 8) (hv : VB (pA S p) (pA S e) (pA S c) (n + 1)) (ha : a ≤ n) :
    MT l G S yX0_takeOut cX0_takeOut 3 none (rmA 3) [va_rf (some b), .int (nI a)]
      (fun v S' => v = none ∧ ∃ g, S' = bkU S b p e c r (shD (pA S p) a (n + 1)) (shD (pA S e) a (n + 1)) (shD (pA S c) a (n + 1)) n g ∧ holds g (frs (shD (pA S p) a (n + 1)) (shD (pA S e) a (n + 1)) (shD (pA S c) a (n + 1)) n n)) (fun _ => False) := by
  obtain ⟨kb, rp, re, rc, rr, kp, np, ke, ne, kc, nc, kr, nr, x1, x2, x3, x4, x5, x6⟩ := id hb
  refine MT_of (by decide +kernel) hl rfl (Nat.le_of_ble_eq_true rfl) (fun Z hC hzl hnm hT hQ => ?_)
  change J G Z S 0 0 0 [some (va_rf (some b)), some (.int (nI a)), none] []
  have hzs : (zl Z).stackTraces = false := by rw [hzl]; exact hl
  have hbD : ∀ f1 f2 f3, isBk (bkD S p e c f1 f2 f3) b p e c r := fun _ _ _ => hb
  have tail : J G Z (bkD S p e c (shD (pA S p) a (n + 1)) (shD (pA S e) a (n + 1)) (shD (pA S c) a (n + 1))) 0 0 39 [some (va_rf (some b)), some (.int (nI a)), some (.int (nI (n + 1)))] [] := by
    refine r_aload_n hC dX0_takeOut_39 rfl rfl ?_
    refine r_dup hC dX0_takeOut_40 rfl ?_
    refine r_getI hC fl_X0_24 rfl dX0_takeOut_41 (kb) (hn) ?_
    refine r_iconst (v := nI 1) hC dX0_takeOut_44 (by decide) ?_
    refine r_isub hC dX0_takeOut_45 ?_
    refine r_putI hC fl_X0_24 rfl (by decide) dX0_takeOut_46 (kb) (fun h => absurd h (by decide)) ?_
    rw [show nI (n + 1) - nI 1 = nI n from nI_pred n]
    have hb2 : isBk (sI (bkD S p e c (shD (pA S p) a (n + 1)) (shD (pA S e) a (n + 1)) (shD (pA S c) a (n + 1))) 4 b (nI n)) b p e c r := hb
    have e1 : pA (sI (bkD S p e c (shD (pA S p) a (n + 1)) (shD (pA S e) a (n + 1)) (shD (pA S c) a (n + 1))) 4 b (nI n)) p = shD (pA S p) a (n + 1) := bkD_p x1 x2
    have e2 : pA (sI (bkD S p e c (shD (pA S p) a (n + 1)) (shD (pA S e) a (n + 1)) (shD (pA S c) a (n + 1))) 4 b (nI n)) e = shD (pA S e) a (n + 1) := bkD_e x4
    have e3 : pA (sI (bkD S p e c (shD (pA S p) a (n + 1)) (shD (pA S e) a (n + 1)) (shD (pA S c) a (n + 1))) 4 b (nI n)) c = shD (pA S c) a (n + 1) := bkD_c
    have hlay := c_layFrames (l := zl Z) (G := G) hzs hb2 (n := n) (u2_s (pI S) 4 b _) (by omega) (by rw [e1, e2, e3]; exact VB_del hv ha)
    rw [e1, e2, e3] at hlay
    refine r_aload_n hC dX0_takeOut_49 rfl rfl ?_
    refine r_cV (as := []) hC (hlay) cs_X0_layFrames q_460 q_462 q_8 (kb) (by decide) rfl dX0_takeOut_50 rfl rfl ⟨Nat.le_of_ble_eq_true rfl, Nat.le_of_ble_eq_true rfl⟩ (Nat.le_of_ble_eq_true rfl) ⟨Nat.le_of_ble_eq_true rfl, Nat.le_of_ble_eq_true rfl⟩ (fun v50 S50 p50 => ?_) (fun _ x => x.elim)
    obtain ⟨rfl, g, rfl, hg⟩ := p50
    refine r_vret hC hQ rfl dX0_takeOut_53 (Nat.le_of_ble_eq_true rfl) (Nat.le_of_ble_eq_true rfl) ?_
    exact ⟨rfl, g, rfl, hg⟩
  have loop : ∀ (d i : Nat), i + d = n + 1 → a < i → J G Z (bkD S p e c (shD (pA S p) a i) (shD (pA S e) a i) (shD (pA S c) a i)) 0 0 17 [some (va_rf (some b)), some (.int (nI a)), some (.int (nI i))] [] := by
    intro d
    induction d with
    | zero =>
      intro i hi hin
      have hi : i = n + 1 := by omega
      subst hi
      refine r_iload_n hC dX0_takeOut_17 rfl rfl ?_
      refine r_aload_n hC dX0_takeOut_18 rfl rfl ?_
      refine r_getI hC fl_X0_24 rfl dX0_takeOut_19 (kb) (hn) ?_
      refine r_icge (tgt := 39) hC dX0_takeOut_22 (by decide) (fun h22 => ?_) (fun h22 => ?_)
      · exact tail
      · exact absurd (nI_le (Nat.le_refl _) (by omega)) h22
    | succ d ih =>
      intro i hi hin
      obtain ⟨i, rfl⟩ : ∃ i', i = i' + 1 := ⟨i - 1, by omega⟩
      refine r_iload_n hC dX0_takeOut_17 rfl rfl ?_
      refine r_aload_n hC dX0_takeOut_18 rfl rfl ?_
      refine r_getI hC fl_X0_24 rfl dX0_takeOut_19 (kb) (hn) ?_
      refine r_icge (tgt := 39) hC dX0_takeOut_22 (by decide) (fun h22 => ?_) (fun h22 => ?_)
      · exact absurd ((nI_leI (by omega) (by omega)).mp h22) (by omega)
      · skip
        have hcp := c_copyDrawing (l := zl Z) (G := G) hzs (hbD (shD (pA S p) a (i + 1)) (shD (pA S e) a (i + 1)) (shD (pA S c) a (i + 1))) (i := i + 1) (j := i) (by omega) (by omega)
        have es : ∀ f : Nat → Int32, upd (shD f a (i + 1)) i (shD f a (i + 1) (i + 1)) = shD f a (i + 1 + 1) := fun f => shD_s f hin
        rw [bkD_p x1 x2, bkD_e x4, bkD_c, bkD_D x1 x2 x4, es, es, es] at hcp
        rw [show nI i = nI (i + 1) - 1 from (nI_pred i).symm] at hcp
        refine r_aload_n hC dX0_takeOut_25 rfl rfl ?_
        refine r_iload_n hC dX0_takeOut_26 rfl rfl ?_
        refine r_iload_n hC dX0_takeOut_27 rfl rfl ?_
        refine r_iconst (v := nI 1) hC dX0_takeOut_28 (by decide) ?_
        refine r_isub hC dX0_takeOut_29 ?_
        refine r_cV (as := [.int (nI (i + 1)), .int (nI (i + 1) - 1)]) hC (hcp) cs_X0_copyDrawing q_456 q_458 q_7 (kb) (by decide) rfl dX0_takeOut_30 rfl rfl ⟨Nat.le_of_ble_eq_true rfl, Nat.le_of_ble_eq_true rfl⟩ (Nat.le_of_ble_eq_true rfl) ⟨Nat.le_of_ble_eq_true rfl, Nat.le_of_ble_eq_true rfl⟩ (fun v30 S30 p30 => ?_) (fun _ x => x.elim)
        obtain ⟨rfl, rfl⟩ := p30
        refine r_iinc hC dX0_takeOut_33 rfl (ii1 _) ?_
        refine r_goto (tgt := 17) hC dX0_takeOut_36 (by decide) ?_
        exact ih (i + 1 + 1) (by omega) (by omega)
  have go : J G Z S 0 0 13 [some (va_rf (some b)), some (.int (nI a)), none] [] := by
    refine r_iload_n hC dX0_takeOut_13 rfl rfl ?_
    refine r_iconst (v := nI 1) hC dX0_takeOut_14 (by decide) ?_
    refine r_iadd hC dX0_takeOut_15 ?_
    refine r_istore_n hC dX0_takeOut_16 rfl (by decide) ?_
    rw [show nI a + nI 1 = nI (a + 1) from nI_add a 1]
    have h := loop (n - a) (a + 1) (by omega) (by omega)
    rw [shD_0, shD_0, shD_0, bkD_id x1 x2 x4] at h
    exact h
  refine r_iload_n hC dX0_takeOut_0 rfl rfl ?_
  refine r_iflt (tgt := 12) hC dX0_takeOut_1 (by decide) (fun h1 => ?_) (fun h1 => ?_)
  · exact absurd h1 (nI_pos (by omega))
  · skip
    refine r_iload_n hC dX0_takeOut_4 rfl rfl ?_
    refine r_aload_n hC dX0_takeOut_5 rfl rfl ?_
    refine r_getI hC fl_X0_24 rfl dX0_takeOut_6 (kb) (hn) ?_
    refine r_iclt (tgt := 13) hC dX0_takeOut_9 (by decide) (fun h9 => ?_) (fun h9 => ?_)
    · exact go
    · exact absurd (nI_lt (by omega) (by omega)) h9
set_option maxRecDepth 100000 in
set_option maxHeartbeats 1000000 in
theorem c_putAt (hl : l.stackTraces = false) (hb : isBk S b p e c r) {n a x : Nat} (hn : pI S 4 b = nI n) (h8 : n ≤ 8) (hv : VB (pA S p) (pA S e) (pA S c) n) (ha : a < n) (hx : x ≤ 999) :
    MT l G S yX0_putAt cX0_putAt 3 none (rmA 3) [va_rf (some b), .int (nI a), .int (nI x)]
      (fun v S' => v = none ∧ ∃ g, S' = bkU S b p e c r (upd (pA S p) a (nI x)) (pA S e) (pA S c) n g ∧ holds g (frs (upd (pA S p) a (nI x)) (pA S e) (pA S c) n n)) (fun _ => False) := by
  obtain ⟨kb, rp, re, rc, rr, kp, np, ke, ne, kc, nc, kr, nr, x1, x2, x3, x4, x5, x6⟩ := id hb
  refine MT_of (by decide +kernel) hl rfl (Nat.le_of_ble_eq_true rfl) (fun Z hC hzl hnm hT hQ => ?_)
  change J G Z S 0 0 0 [some (va_rf (some b)), some (.int (nI a)), some (.int (nI x))] []
  have hzs : (zl Z).stackTraces = false := by rw [hzl]; exact hl
  refine r_iload_n hC dX0_putAt_0 rfl rfl ?_
  refine r_iflt (tgt := 12) hC dX0_putAt_1 (by decide) (fun h1 => ?_) (fun h1 => ?_)
  · exact absurd h1 (nI_pos (by omega))
  · skip
    refine r_iload_n hC dX0_putAt_4 rfl rfl ?_
    refine r_aload_n hC dX0_putAt_5 rfl rfl ?_
    refine r_getI hC fl_X0_24 rfl dX0_putAt_6 (kb) (hn) ?_
    refine r_iclt (tgt := 13) hC dX0_putAt_9 (by decide) (fun h9 => ?_) (fun h9 => ?_)
    · skip
      refine r_aload_n hC dX0_putAt_13 rfl rfl ?_
      refine r_getR  hC fl_X0_9 dX0_putAt_14 (kb) (rp) ?_
      refine r_iload_n hC dX0_putAt_17 rfl rfl ?_
      refine r_iload_n hC dX0_putAt_18 rfl rfl ?_
      refine r_iast hC dX0_putAt_19 (kp) (rfl) (show a < pN S p by rw [np]; omega) (show pN S p < 2147483648 by rw [np]; decide) ?_
      have e0 : sA S p (upd (pA S p) a (nI x)) = sI (bkD S p e c (upd (pA S p) a (nI x)) (pA S e) (pA S c)) 4 b (nI n) := by
        rw [sI_id (S := bkD S p e c _ _ _) (f := 4) (a := b) (v := nI n) hn, bkD, sA_id (a := e) _ (A_n _ _ x1.symm), sA_id (a := c) _ (A_n _ _ x2.symm)]
      rw [e0]
      have hb2 : isBk (sI (bkD S p e c (upd (pA S p) a (nI x)) (pA S e) (pA S c)) 4 b (nI n)) b p e c r := hb
      have e1 : pA (sI (bkD S p e c (upd (pA S p) a (nI x)) (pA S e) (pA S c)) 4 b (nI n)) p = upd (pA S p) a (nI x) := bkD_p x1 x2
      have e2 : pA (sI (bkD S p e c (upd (pA S p) a (nI x)) (pA S e) (pA S c)) 4 b (nI n)) e = pA S e := bkD_e x4
      have e3 : pA (sI (bkD S p e c (upd (pA S p) a (nI x)) (pA S e) (pA S c)) 4 b (nI n)) c = pA S c := bkD_c
      have hlay := c_layFrames (l := zl Z) (G := G) hzs hb2 (n := n) (u2_s (pI S) 4 b _) h8 (by rw [e1, e2, e3]; exact VB_put hv hx)
      rw [e1, e2, e3] at hlay
      refine r_aload_n hC dX0_putAt_20 rfl rfl ?_
      refine r_cV (as := []) hC (hlay) cs_X0_layFrames q_460 q_462 q_8 (kb) (by decide) rfl dX0_putAt_21 rfl rfl ⟨Nat.le_of_ble_eq_true rfl, Nat.le_of_ble_eq_true rfl⟩ (Nat.le_of_ble_eq_true rfl) ⟨Nat.le_of_ble_eq_true rfl, Nat.le_of_ble_eq_true rfl⟩ (fun v21 S21 p21 => ?_) (fun _ x => x.elim)
      obtain ⟨rfl, g, rfl, hg⟩ := p21
      refine r_vret hC hQ rfl dX0_putAt_24 (Nat.le_of_ble_eq_true rfl) (Nat.le_of_ble_eq_true rfl) ?_
      exact ⟨rfl, g, rfl, hg⟩
    · exact absurd (nI_lt ha (by omega)) h9
end BookD

