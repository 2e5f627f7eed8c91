/-! ===== tolerance, knives, folds: calls that set one thing; what is read of them ===== -/
def unfP (a b c : Nat) : Bool := (List.range 8).all (fun x => decide (unf (folds3 a b c) x < 8) && (List.range 8).all (fun y => decide (x = y) || decide (unf (folds3 a b c) x ≠ unf (folds3 a b c) y)) && (List.range 8).any (fun y => decide (unf (folds3 a b c) y = x)))
theorem unfP_1 : ∀ a, a < 2 → ∀ b, b < 2 → ∀ c, c < 2 → unfP (2 + a) b c = true := by decide +kernel
theorem unfP_2 : ∀ a, a < 2 → ∀ b, b < 2 → ∀ c, c < 2 → unfP a (2 + b) c = true := by decide +kernel
theorem unfP_3 : ∀ a, a < 2 → ∀ b, b < 2 → ∀ c, c < 2 → unfP a b (2 + c) = true := by decide +kernel
theorem unfP_all {f : Nat → Nat} (h : okf f) : unfP (f 0) (f 1) (f 2) = true := by
  obtain ⟨⟨h0, h1, h2⟩, hs⟩ := h
  by_cases a0 : f 0 < 2
  · by_cases a1 : f 1 < 2
    · have a2 : ¬ f 2 < 2 := fun a2 => by simp [a0, a1, a2] at hs
      have := unfP_3 (f 0) a0 (f 1) a1 (f 2 - 2) (by omega)
      rwa [show 2 + (f 2 - 2) = f 2 by omega] at this
    · have a2 : f 2 < 2 := Classical.byContradiction (fun a2 => by simp [a0, a1, a2] at hs)
      have := unfP_2 (f 0) a0 (f 1 - 2) (by omega) (f 2) a2
      rwa [show 2 + (f 1 - 2) = f 1 by omega] at this
  · have a1 : f 1 < 2 := Classical.byContradiction (fun a1 => by simp [a0, a1] at hs; split at hs <;> omega)
    have a2 : f 2 < 2 := Classical.byContradiction (fun a2 => by simp [a0, a1, a2] at hs)
    have := unfP_1 (f 0 - 2) (by omega) (f 1) a1 (f 2) a2
    rwa [show 2 + (f 0 - 2) = f 0 by omega] at this
theorem unf_ok {f : Nat → Nat} (h : okf f) : (∀ x, x < 8 → unf f x < 8) ∧ (∀ x y, x < 8 → y < 8 → unf f x = unf f y → x = y) ∧ ∀ x, x < 8 → ∃ y, y < 8 ∧ unf f y = x := by
  have hp := unfP_all h
  have e : ∀ x, unf (folds3 (f 0) (f 1) (f 2)) x = unf f x := fun x => (unf_cong (folds3_eq f) x).symm
  unfold unfP at hp
  simp only [e] at hp
  rw [List.all_eq_true] at hp
  have hq : ∀ x, x < 8 → unf f x < 8 ∧ (∀ y, y < 8 → x = y ∨ unf f x ≠ unf f y) ∧ ∃ y, y < 8 ∧ unf f y = x := by
    intro x hx
    have := hp x (List.mem_range.mpr hx)
    simp only [Bool.and_eq_true, decide_eq_true_eq, List.all_eq_true, List.any_eq_true, List.mem_range, Bool.or_eq_true] at this
    exact ⟨this.1.1, this.1.2, this.2⟩
  exact ⟨fun x hx => (hq x hx).1, fun x y hx hy e => ((hq x hx).2.1 y hy).resolve_right (fun z => z e), fun x hx => (hq x hx).2.2⟩
/-- the place to which the cell c comes -/
def plF (f : Nat → Nat) (c : Nat) : Nat → Nat
  | 0 => 0
  | n + 1 => if unf f n = c then n else plF f c n
theorem plF_eq {f : Nat → Nat} (h : okf f) {c p : Nat} (hp : p < 8) (e : unf f p = c) : ∀ n, n ≤ 8 → p < n → plF f c n = p := by
  intro n
  induction n with
  | zero => intro _ h; omega
  | succ n ih =>
    intro h8 hpn
    simp only [plF]
    by_cases hc : unf f n = c
    · rw [if_pos hc]
      exact (unf_ok h).2.1 n p (by omega) hp (hc.trans e.symm)
    · rw [if_neg hc]
      refine ih (by omega) ?_
      rcases Nat.lt_or_ge p n with z | z
      · exact z
      · have : p = n := by omega
        subst this
        exact absurd e hc
def oPlaceOf (A : AS) (c : Int32) : OP := if ixb c 8 = true then (0, nI (plF (aFd A) (ii c) 8), A) else (1, 0, A)
def sdw (x : Int32) : Nat := if x = 0 ∨ x = 1 then 1 else 0
def oSetFolds (A : AS) (a b c : Int32) : OP := if (rgb a 0 3 = true ∧ rgb b 0 3 = true ∧ rgb c 0 3 = true) ∧ sdw a + sdw b + sdw c = 2 then (0, 0, uD (uD (uD A 7 0 0 0 (ii a)) 7 1 0 0 (ii b)) 7 2 0 0 (ii c)) else (1, 0, A)
/-- the end of an operation without an answer -/
def ENv (G : GG) (S : PS) (tg : TG) (t : Nat) (r : OP) (v : Option Value) (S' : PS) : Prop := r.1 = 0 ∧ v = none ∧ ∃ tg' W', CL G S' tg' W' r.2.2 t ∧ FrC tg S S' tg'
section SetA
variable {l : Launch} {G : GG} {S S' : PS} {tg : TG} {W : WT} {A : AS} {t nl : Nat}
theorem CLn.pi (h : CLn G S tg W A t nl) (hg : gE G ∉ pL S') (hx : ExP S S' (wPi W) (wAc W) (wAh W)) : CLn G S' tg W A t nl := by
  obtain ⟨hv, hb, ho, hs, hr⟩ := h
  have tA : ∀ y, y = wAc W ∨ y = wAh W → tg y = 3 ∨ tg y = 4 := fun y h => h.imp (fun e => by rw [e]; exact hr.2.2.2.2.2.2.2.2.2.2.2.2.2.2.2.2.2.2.1) (fun e => by rw [e]; exact hr.2.2.2.2.2.2.2.2.2.2.2.2.2.2.2.2.2.2.2.1)
  exact ⟨hv, hb.ex hv hx (fun _ _ => rfl) hg (fun f y h z => by omega) (fun _ _ _ z => z) (fun y h1 h2 z => by have := tA y z; omega) (fun z => by omega) (fun z => z) (fun _ _ _ z => z),
    ho.ex hv hs.sc hx (fun _ _ => rfl) hg (fun f y h1 h2 z => by omega) (fun _ _ _ _ z => z) (fun _ _ _ z => z) (fun _ _ z => by omega) (fun _ _ z => z),
    hs.ex hv ho.lv hx (fun _ _ => rfl) hg (fun f y h z => by omega) (fun _ _ _ z => z) (fun y h z => by have := tA y z; omega) (fun _ _ _ z => z) (fun z => by omega) (fun z => z),
    hr.ex hx (fun _ _ => rfl) (fun f y h z => by omega) (fun _ _ _ z => z) (fun y h z => by have := tA y z; omega)⟩
theorem CLn.piF (h : CLn G S tg W A t nl) (hx : ExP S S' (wPi W) (wAc W) (wAh W)) : FrC tg S S' tg := by
  obtain ⟨hv, hb, ho, hs, hr⟩ := h
  have t3 : tg (wAc W) = 3 := hr.2.2.2.2.2.2.2.2.2.2.2.2.2.2.2.2.2.2.1
  have t4 : tg (wAh W) = 4 := hr.2.2.2.2.2.2.2.2.2.2.2.2.2.2.2.2.2.2.2.1
  refine FrC.of hx (fun _ _ => rfl) (fun f y z => by omega) (fun _ _ z => z.elim) (fun y z => ?_)
  rcases z with rfl | rfl <;> omega
theorem CLn.tol (h : CLn G S tg W A t nl) (hg : gE G ∉ pL S) {n : Nat} (hn : n ≤ 15) : CLn G (sI S 231 t (nI n)) tg W (uD A 0 3 0 0 n) t nl := by
  obtain ⟨hv, hb, ho, hs, hr⟩ := h
  have hx : Ex S (sI S 231 t (nI n)) (fun f _ => f = 231) x2 x0 x0 := Ex.putI rfl
  obtain ⟨v1, v2, v3, v4, v5⟩ := id hv
  refine ⟨⟨v1, v2, v3, hn, v5⟩, hb.ex hv hx (fun _ _ => rfl) hg (fun f y h z => by omega) (fun _ _ _ z => z) (fun _ _ _ z => z) (by decide) (fun z => z) (fun _ _ _ z => z),
    ho.ex hv hs.sc hx (fun _ _ => rfl) hg (fun f y h1 h2 z => by omega) (fun _ _ _ _ z => z) (fun _ _ _ z => z) (fun _ _ z => absurd z (by decide)) (fun _ _ z => z),
    hs.ex hv ho.lv hx (fun _ _ => rfl) hg (fun f y h z => by omega) (fun _ _ _ z => z) (fun _ _ z => z) (fun _ _ _ z => z) (by decide) (fun z => z), ?_⟩
  obtain ⟨kt, r0, r1, r2, r3, r4, r5, r6, i1, i2, rest⟩ := hr
  exact ⟨kt, r0, r1, r2, r3, r4, r5, r6, I_s S 231 t _, (I_f S t t _ (by decide)).trans i2, rest⟩
theorem CLn.dl (h : CLn G S tg W A t nl) (hg : gE G ∉ pL S) {k n : Nat} (hk : k < 2) (hn : n ≤ 60) : CLn G (sA S (wUd W) (upd (pA S (wUd W)) k (nI n))) tg W (uD A 10 k 0 0 n) t nl := by
  obtain ⟨hv, hb, ho, hs, hr⟩ := h
  have hx : Ex S (sA S (wUd W) (upd (pA S (wUd W)) k (nI n))) x2 x2 (fun y => y = wUd W) x0 := Ex.putA rfl
  obtain ⟨v1, v2, v3, v4, v5, v6, v7, v8, v9, v10, v11⟩ := id hv
  obtain ⟨kt, r0, r1, r2, r3, r4, r5, r6, i1, i2, ku, nu, tu, kd, nd, td, hd, hp, tc, th, hf, tf⟩ := id hr
  refine ⟨⟨v1, v2, v3, v4, v5, v6, v7, v8, v9, fun j => ?_, v11⟩, hb.ex hv hx (fun _ _ => rfl) hg (fun _ _ _ z => z) (fun _ _ _ z => z) (fun y h1 h2 z => by rw [z] at h1; omega) (fun z => z) (fun z => z) (fun _ _ _ z => z),
    ho.ex hv hs.sc hx (fun _ _ => rfl) hg (fun _ _ _ _ z => z) (fun _ _ _ _ z => z) (fun _ _ _ z => z) (fun _ _ z => z) (fun _ _ z => z),
    hs.ex hv ho.lv hx (fun _ _ => rfl) hg (fun _ _ _ _ z => z) (fun _ _ _ z => z) (fun y h z => by rw [z] at h; omega) (fun _ _ _ z => z) (fun z => z) (fun z => z), ?_⟩
  · show (if j = k ∧ (0 : Nat) = 0 ∧ (0 : Nat) = 0 then n else aDl A j) ≤ 60
    split
    · exact hn
    · exact v10 j
  · refine ⟨kt, r0, r1, r2, r3, r4, r5, r6, i1, i2, ku, nu, tu, kd, nd, td, fun j hj => ?_, hp.ex2 hx (fun _ _ _ z => z), tc, th, hf.ex hx (fun z => z) (fun z => ?_), tf⟩
    · rw [A_s]
      show _ = nI (if j = k ∧ (0 : Nat) = 0 ∧ (0 : Nat) = 0 then n else aDl A j)
      by_cases hjk : j = k
      · rw [hjk, pk_us, if_pos ⟨rfl, rfl, rfl⟩]
      · rw [pk_un hjk, if_neg (fun z => hjk z.1)]
        exact hd j hj
    · rw [z] at tf
      omega
set_option maxRecDepth 100000 in
theorem c_setTolerance (hl : l.stackTraces = false) (h : CL G S tg W A t) (x : Int32) :
    MT l G S yX7_setTolerance cX7_setTolerance 3 (some .int) (rmT 1 1 6) [va_rf (some t), .int x] (EN G S tg t (oSetTol A x)) (XO A (oSetTol A x) [eIA]) := by
  obtain ⟨⟨hv, hb, ho, hs, hr⟩, hF⟩ := id h
  refine MT_of (by decide +kernel) hl rfl (Nat.le_of_ble_eq_true rfl) (fun Z hC hzl hnm hT hQ => ?_)
  change J G Z S 0 0 0 [some (va_rf (some t)), some (.int x), none] []
  have hzs : (zl Z).stackTraces = false := by rw [hzl]; exact hl
  refine r_hge hC (fun hg => ?_)
  refine r_iload_n hC dX7_setTolerance_0 rfl rfl ?_
  refine r_iconst (v := nI 0) hC dX7_setTolerance_1 (by decide) ?_
  refine r_bipush (v := nI 15) hC dX7_setTolerance_2 (by decide) ?_
  refine r_cS (as := [.int x, .int (nI 0), .int (nI 15)]) hC (c_checkRange hzs x (nI 0) (nI 15)) cs_X7_checkRange q_432 q_433 dX7_setTolerance_4 rfl rfl ⟨Nat.le_of_ble_eq_true rfl, Nat.le_of_ble_eq_true rfl⟩ (Nat.le_of_ble_eq_true rfl) ⟨Nat.le_of_ble_eq_true rfl, Nat.le_of_ble_eq_true rfl⟩ (fun v4 S4 p4 => ?_) (fun E4 x4 => ?_)
  · obtain ⟨rfl, e4, r1, r2⟩ := p4
    rw [e4]
    obtain ⟨y, hy, rfl⟩ := rgb_n (by decide) r1 r2
    refine r_aload_n hC dX7_setTolerance_7 rfl rfl ?_
    refine r_getI hC fl_X7_45 rfl dX7_setTolerance_8 (hr.1) (hr.2.2.2.2.2.2.2.2.1) ?_
    refine r_istore_n hC dX7_setTolerance_11 rfl (by decide) ?_
    refine r_aload_n hC dX7_setTolerance_12 rfl rfl ?_
    refine r_iload_n hC dX7_setTolerance_13 rfl rfl ?_
    refine r_putI hC fl_X7_45 rfl (by decide) dX7_setTolerance_14 (hr.1) (fun h => absurd h (by decide)) ?_
    refine r_iload_n hC dX7_setTolerance_17 rfl rfl ?_
    refine r_iret hC hQ rfl dX7_setTolerance_18 (Nat.le_of_ble_eq_true rfl) (Nat.le_of_ble_eq_true rfl) ?_
    have e : oSetTol A (nI y) = (0, nI (aTol A), uD A 0 3 0 0 y) := by unfold oSetTol; rw [if_pos (rgb_t r1 r2), ii_n (by omega)]
    rw [e]
    exact ⟨rfl, rfl, tg, W, ⟨h.1.tol hg hy, hF⟩, FrC.of (Ex.putI (XI := fun f _ => f = 231) (XR := x2) (XA := x0) (XB := x0) rfl) (fun _ _ => rfl) (fun f y z => by omega) (fun _ _ z => z.elim) (fun _ z => z.elim)⟩
  · refine r_out hC hQ hT (Nat.le_of_ble_eq_true rfl) (Nat.le_of_ble_eq_true rfl) ⟨0, ?_, by rw [x4.1]; rfl⟩
    unfold oSetTol
    rw [if_neg (by rw [rgb_f x4.2]; decide)]
set_option maxRecDepth 100000 in
theorem c_sharpen (hl : l.stackTraces = false) (h : CL G S tg W A t) (x : Int32) :
    MT l G S yX7_sharpen cX7_sharpen 3 (some .int) (rmT 1 1 6) [va_rf (some t), .int x] (EN G S tg t (oSharpen A x)) (XO A (oSharpen A x) [eIO]) := by
  obtain ⟨⟨hv, hb, ho, hs, hr⟩, hF⟩ := id h
  refine MT_of (by decide +kernel) hl rfl (Nat.le_of_ble_eq_true rfl) (fun Z hC hzl hnm hT hQ => ?_)
  change J G Z S 0 0 0 [some (va_rf (some t)), some (.int x), none] []
  have hzs : (zl Z).stackTraces = false := by rw [hzl]; exact hl
  refine r_hge hC (fun hg => ?_)
  obtain ⟨kt, r0, r1, r2, r3, r4, r5, r6, i1, i2, ku, nu, tu, kd, nd, td, hd, hp, tc, th, hf, tf⟩ := id hr
  refine r_iload_n hC dX7_sharpen_0 rfl rfl ?_
  refine r_iconst (v := nI 2) hC dX7_sharpen_1 (by decide) ?_
  refine r_cS (as := [.int x, .int (nI 2)]) hC (c_checkIndex hzs x (m := 2) (by decide)) cs_X7_checkIndex q_412 q_413 dX7_sharpen_2 rfl rfl ⟨Nat.le_of_ble_eq_true rfl, Nat.le_of_ble_eq_true rfl⟩ (Nat.le_of_ble_eq_true rfl) ⟨Nat.le_of_ble_eq_true rfl, Nat.le_of_ble_eq_true rfl⟩ (fun v2 S2 p2 => ?_) (fun E2 x2 => ?_)
  · obtain ⟨rfl, e2, k, hk, rfl⟩ := p2
    rw [e2]
    refine r_aload_n hC dX7_sharpen_5 rfl rfl ?_
    refine r_getR  hC fl_X7_26 dX7_sharpen_6 (kt) (r4) ?_
    refine r_iload_n hC dX7_sharpen_9 rfl rfl ?_
    refine r_iald hC dX7_sharpen_10 (kd) (rfl) (by rw [nd]; exact hk) (by rw [nd]; decide) (hd k hk) ?_
    refine r_istore_n hC dX7_sharpen_11 rfl (by decide) ?_
    refine r_aload_n hC dX7_sharpen_12 rfl rfl ?_
    refine r_getR  hC fl_X7_26 dX7_sharpen_13 (kt) (r4) ?_
    refine r_iload_n hC dX7_sharpen_16 rfl rfl ?_
    refine r_iconst (v := nI 0) hC dX7_sharpen_17 (by decide) ?_
    refine r_iast hC dX7_sharpen_18 (kd) (rfl) (by rw [nd]; exact hk) (by rw [nd]; decide) ?_
    refine r_iload_n hC dX7_sharpen_19 rfl rfl ?_
    refine r_iret hC hQ rfl dX7_sharpen_20 (Nat.le_of_ble_eq_true rfl) (Nat.le_of_ble_eq_true rfl) ?_
    have e : oSharpen A (nI k) = (0, nI (aDl A k), uD A 10 k 0 0 0) := by unfold oSharpen; rw [if_pos (ixb_t hk (by decide)), ii_n (by omega)]
    rw [e]
    refine ⟨rfl, rfl, tg, W, ⟨h.1.dl hg hk (by decide), hF⟩, FrC.of (Ex.putA (XI := x2) (XR := x2) (XA := fun y => y = wUd W) (XB := x0) rfl) (fun _ _ => rfl) (fun _ _ z => z.elim) (fun _ _ z => z.elim) (fun y z => by rw [z, td]; decide)⟩
  · refine r_out hC hQ hT (Nat.le_of_ble_eq_true rfl) (Nat.le_of_ble_eq_true rfl) ⟨0, ?_, by rw [x2.1]; rfl⟩
    unfold oSharpen
    rw [if_neg (by rw [ixb_f x2.2]; decide)]
set_option maxRecDepth 100000 in
theorem c_cellOf (hl : l.stackTraces = false) (h : CL G S tg W A t) (x : Int32) :
    MT l G S yX7_cellOf cX7_cellOf 2 (some .int) (rmT 2 1 6) [va_rf (some t), .int x] (EN G S tg t (oCellOf A x)) (XO A (oCellOf A x) [eIO]) := by
  obtain ⟨⟨hv, hb, ho, hs, hr⟩, hF⟩ := id h
  refine MT_of (by decide +kernel) hl rfl (Nat.le_of_ble_eq_true rfl) (fun Z hC hzl hnm hT hQ => ?_)
  change J G Z S 0 0 0 [some (va_rf (some t)), some (.int x)] []
  have hzs : (zl Z).stackTraces = false := by rw [hzl]; exact hl
  obtain ⟨kt, r0, r1, r2, r3, r4, r5, r6, i1, i2, ku, nu, tu, kd, nd, td, hd, hp, tc, th, hf, tf⟩ := id hr
  refine r_iload_n hC dX7_cellOf_0 rfl rfl ?_
  refine r_bipush (v := nI 8) hC dX7_cellOf_1 (by decide) ?_
  refine r_cS (as := [.int x, .int (nI 8)]) hC (c_checkIndex hzs x (m := 8) (by decide)) cs_X7_checkIndex q_412 q_413 dX7_cellOf_3 rfl rfl ⟨Nat.le_of_ble_eq_true rfl, Nat.le_of_ble_eq_true rfl⟩ (Nat.le_of_ble_eq_true rfl) ⟨Nat.le_of_ble_eq_true rfl, Nat.le_of_ble_eq_true rfl⟩ (fun v3 S3 p3 => ?_) (fun E3 x3 => ?_)
  · obtain ⟨rfl, e3, k, hk, rfl⟩ := p3
    rw [e3]
    refine r_aload_n hC dX7_cellOf_6 rfl rfl ?_
    refine r_getR  hC fl_X7_41 dX7_cellOf_7 (kt) (r6) ?_
    refine r_iload_n hC dX7_cellOf_10 rfl rfl ?_
    refine r_cVN (as := [.int (nI k)]) hC (c_unfold hzs hf hk) cs_X2_unfold q_644 q_646 q_24 (hf.1) (by decide) rfl dX7_cellOf_11 rfl rfl ⟨Nat.le_of_ble_eq_true rfl, Nat.le_of_ble_eq_true rfl⟩ (Nat.le_of_ble_eq_true rfl) ⟨Nat.le_of_ble_eq_true rfl, Nat.le_of_ble_eq_true rfl⟩ (fun v11 S11 p11 => ?_) (fun _ x => x.elim)
    obtain ⟨rfl, e11⟩ := p11
    rw [e11]
    refine r_iret hC hQ rfl dX7_cellOf_14 (Nat.le_of_ble_eq_true rfl) (Nat.le_of_ble_eq_true rfl) ?_
    have e : oCellOf A (nI k) = (0, nI (unf (aFd A) k), A) := by unfold oCellOf; rw [if_pos (ixb_t hk (by decide)), ii_n (by omega)]
    rw [e]
    exact ⟨rfl, rfl, tg, W, h, FrC.rf⟩
  · refine r_out hC hQ hT (Nat.le_of_ble_eq_true rfl) (Nat.le_of_ble_eq_true rfl) ⟨0, ?_, by rw [x3.1]; rfl⟩
    unfold oCellOf
    rw [if_neg (by rw [ixb_f x3.2]; decide)]
set_option maxRecDepth 100000 in
theorem c_isBound (hl : l.stackTraces = false) (h : CL G S tg W A t) (o c : Int32) :
    MT l G S yX7_isBound cX7_isBound 3 (some .boolean) (rmT 2 2 12) [va_rf (some t), .int o, .int c] (EN G S tg t (oIsBound A o c)) (XO A (oIsBound A o c) [eIO]) := by
  obtain ⟨⟨hv, hb, ho, hs, hr⟩, hF⟩ := id h
  have h5 := hv.2.1
  refine MT_of (by decide +kernel) hl rfl (Nat.le_of_ble_eq_true rfl) (fun Z hC hzl hnm hT hQ => ?_)
  change J G Z S 0 0 0 [some (va_rf (some t)), some (.int o), some (.int c)] []
  have hzs : (zl Z).stackTraces = false := by rw [hzl]; exact hl
  refine r_aload_n hC dX7_isBound_0 rfl rfl ?_
  refine r_iload_n hC dX7_isBound_1 rfl rfl ?_
  refine r_cV (as := [.int o]) hC (c_orderNumbered hzs hr.1 hr.2.2.1 ho.1 h5 o) cs_X7_orderNumbered q_592 q_594 q_18 (hr.1) (by decide) rfl dX7_isBound_2 rfl rfl ⟨Nat.le_of_ble_eq_true rfl, Nat.le_of_ble_eq_true rfl⟩ (Nat.le_of_ble_eq_true rfl) ⟨Nat.le_of_ble_eq_true rfl, Nat.le_of_ble_eq_true rfl⟩ (fun v2 S2 p2 => ?_) (fun E2 x2 => ?_)
  · obtain ⟨j, hj, rfl, rfl, e2⟩ := p2
    rw [e2]
    obtain ⟨g1, g2, g3, g4, g5⟩ := ho.2.2.2 j hj
    have q1 : ixb (nI j) (aNo A) = true := ixb_t hj (by omega)
    have q2 : ii (nI j) = j := ii_n (by omega)
    have h3 := (hv.2.2.2.2.2.1 j hj).2.2
    refine r_iload_n hC dX7_isBound_5 rfl rfl ?_
    refine r_cS (as := [va_rf (some (wOo W j)), .int c]) hC (c_copyNumbered hzs g1.1 g1.2.2.2.1 g1.2.2.2.2.1 h3 c) cs_X7_copyNumbered q_846 q_847 dX7_isBound_6 rfl rfl ⟨Nat.le_of_ble_eq_true rfl, Nat.le_of_ble_eq_true rfl⟩ (Nat.le_of_ble_eq_true rfl) ⟨Nat.le_of_ble_eq_true rfl, Nat.le_of_ble_eq_true rfl⟩ (fun v6 S6 p6 => ?_) (fun E6 x6 => ?_)
    · obtain ⟨k, hk, rfl, rfl, e6⟩ := p6
      rw [e6]
      have hcp := g1.2.2.2.2.2.2.1 k hk
      obtain ⟨k1, k2, k3, k4⟩ := g5 k hk
      have q3 : ixb (nI k) (aNc A j) = true := ixb_t hk (by omega)
      have q4 : ii (nI k) = k := ii_n (by omega)
      refine r_getI hC fl_X7_214 rfl dX7_isBound_9 (hcp.1) (rfl) ?_
      refine r_zret hC hQ rfl (hcp.2.2.2.2.2) dX7_isBound_12 (Nat.le_of_ble_eq_true rfl) (Nat.le_of_ble_eq_true rfl) ?_
      unfold oIsBound
      rw [q2, if_pos ⟨q1, q3⟩, q4]
      refine ⟨rfl, ?_, tg, W, h, FrC.rf⟩
      rcases k3 with ⟨z1, z2⟩ | ⟨z1, z2, -⟩
      · show some (Value.int (pI S 33 _)) = some (Value.int (if aBd A j k = 0 then 0 else 1))
        rw [if_pos z1, z2]
      · show some (Value.int (pI S 33 _)) = some (Value.int (if aBd A j k = 0 then 0 else 1))
        rw [if_neg z1, z2]
    · refine r_out hC hQ hT (Nat.le_of_ble_eq_true rfl) (Nat.le_of_ble_eq_true rfl) ⟨0, ?_, by rw [x6.1]; rfl⟩
      unfold oIsBound
      rw [q2, if_neg (fun z => absurd z.2 (by rw [ixb_f x6.2]; decide))]
  · refine r_out hC hQ hT (Nat.le_of_ble_eq_true rfl) (Nat.le_of_ble_eq_true rfl) ⟨0, ?_, by rw [x2.1]; rfl⟩
    unfold oIsBound
    rw [if_neg (fun z => absurd z.1 (by rw [ixb_f x2.2]; decide))]
set_option maxRecDepth 100000 in
set_option maxHeartbeats 1000000 in
theorem c_placeOf (hl : l.stackTraces = false) (h : CL G S tg W A t) (x : Int32) :
    MT l G S yX7_placeOf cX7_placeOf 3 (some .int) (rmT 2 1 6) [va_rf (some t), .int x] (EN G S tg t (oPlaceOf A x)) (XO A (oPlaceOf A x) [eIO]) := by
  obtain ⟨⟨hv, hb, ho, hs, hr⟩, hF⟩ := id h
  refine MT_of (by decide +kernel) hl rfl (Nat.le_of_ble_eq_true rfl) (fun Z hC hzl hnm hT hQ => ?_)
  change J G Z S 0 0 0 [some (va_rf (some t)), some (.int x), none] []
  have hzs : (zl Z).stackTraces = false := by rw [hzl]; exact hl
  obtain ⟨kt, r0, r1, r2, r3, r4, r5, r6, i1, i2, ku, nu, tu, kd, nd, td, hd, hp, tc, th, hf, tf⟩ := id hr
  refine r_iload_n hC dX7_placeOf_0 rfl rfl ?_
  refine r_bipush (v := nI 8) hC dX7_placeOf_1 (by decide) ?_
  refine r_cS (as := [.int x, .int (nI 8)]) hC (c_checkIndex hzs x (m := 8) (by decide)) cs_X7_checkIndex q_412 q_413 dX7_placeOf_3 rfl rfl ⟨Nat.le_of_ble_eq_true rfl, Nat.le_of_ble_eq_true rfl⟩ (Nat.le_of_ble_eq_true rfl) ⟨Nat.le_of_ble_eq_true rfl, Nat.le_of_ble_eq_true rfl⟩ (fun v3 S3 p3 => ?_) (fun E3 x3 => ?_)
  · obtain ⟨rfl, e3, k, hk, rfl⟩ := p3
    rw [e3]
    refine r_aload_n hC dX7_placeOf_6 rfl rfl ?_
    refine r_getR  hC fl_X7_32 dX7_placeOf_7 (kt) (r5) ?_
    refine r_aload_n hC dX7_placeOf_10 rfl rfl ?_
    refine r_getR  hC fl_X7_41 dX7_placeOf_11 (kt) (r6) ?_
    refine r_cVN (as := [va_rf (some (wFo W))]) hC (c_foldAll hzs hp hf (fun z => by rw [z] at tf; omega) (fun z => by rw [z] at tf; omega)) cs_X5_foldAll q_658 q_660 q_25 (hp.1) (by decide) rfl dX7_placeOf_14 rfl rfl ⟨Nat.le_of_ble_eq_true rfl, Nat.le_of_ble_eq_true rfl⟩ (Nat.le_of_ble_eq_true rfl) ⟨Nat.le_of_ble_eq_true rfl, Nat.le_of_ble_eq_true rfl⟩ (fun v14 S14 p14 => ?_) (fun _ x => x.elim)
    obtain ⟨rfl, hpr, hx⟩ := p14
    refine r_hge hC (fun hg14 => ?_)
    have hn14 := h.1.pi hg14 hx
    have hf14 := h.1.piF hx
    have kt14 := hx.kd kt
    have r514 : pR S14 229 t = some (wPi W) := ((hx t kt.1).2.2.2.2.1 229 (fun z => z)).trans r5
    have hp14 := hp.ex hx
    have e : oPlaceOf A (nI k) = (0, nI (plF (aFd A) k 8), A) := by unfold oPlaceOf; rw [if_pos (ixb_t hk (by decide)), ii_n (by omega)]
    rw [e] at hQ
    have loop : ∀ (d i : Nat), i + d = 8 → (∀ j, j < i → unf (aFd A) j ≠ k) → J G Z S14 1 6 19 [some (va_rf (some t)), some (.int (nI k)), some (.int (nI i))] [] := by
      intro d
      induction d with
      | zero =>
        intro i hi hn
        obtain ⟨y, hy, e⟩ := (unf_ok hv.2.2.2.2.2.2.2.1).2.2 k hk
        exact absurd e (hn y (by omega))
      | succ d ih =>
        intro i hi hn
        have hi8 : i < 8 := by omega
        refine r_iload_n hC dX7_placeOf_19 rfl rfl ?_
        refine r_bipush (v := nI 8) hC dX7_placeOf_20 (by decide) ?_
        refine r_icge (tgt := 45) hC dX7_placeOf_22 (by decide) (fun h22 => ?_) (fun h22 => ?_)
        · exact absurd ((nI_leI (by omega) (by omega)).mp h22) (by omega)
        · skip
          refine r_aload_n hC dX7_placeOf_25 rfl rfl ?_
          refine r_getR  hC fl_X7_32 dX7_placeOf_26 (kt14) (r514) ?_
          refine r_iload_n hC dX7_placeOf_29 rfl rfl ?_
          refine r_cVN (as := [.int (nI i)]) hC (c_cellAt hzs hp14 hv.2.2.2.2.2.2.2.1 hpr hi8) cs_X5_cellAt q_682 q_684 q_31 (hp14.1) (by decide) rfl dX7_placeOf_30 rfl rfl ⟨Nat.le_of_ble_eq_true rfl, Nat.le_of_ble_eq_true rfl⟩ (Nat.le_of_ble_eq_true rfl) ⟨Nat.le_of_ble_eq_true rfl, Nat.le_of_ble_eq_true rfl⟩ (fun v30 S30 p30 => ?_) (fun _ x => x.elim)
          obtain ⟨rfl, e30⟩ := p30
          rw [e30]
          have hu := (unf_ok hv.2.2.2.2.2.2.2.1).1 i hi8
          refine r_iload_n hC dX7_placeOf_33 rfl rfl ?_
          refine r_icne (tgt := 39) hC dX7_placeOf_34 (by decide) (fun h34 => ?_) (fun h34 => ?_)
          · skip
            refine r_iinc hC dX7_placeOf_39 rfl (ii1 _) ?_
            refine r_goto (tgt := 19) hC dX7_placeOf_42 (by decide) ?_
            refine ih (i + 1) (by omega) (fun j hj => ?_)
            rcases Nat.lt_or_ge j i with z | z
            · exact hn j z
            · have : j = i := by omega
              subst this
              exact fun z => h34 (by rw [z])
          · refine r_iload_n hC dX7_placeOf_37 rfl rfl ?_
            refine r_iret hC hQ rfl dX7_placeOf_38 (Nat.le_of_ble_eq_true rfl) (Nat.le_of_ble_eq_true rfl) ?_
            have ek : unf (aFd A) i = k := (nI_eq (by omega) (by omega)).mp h34
            rw [plF_eq hv.2.2.2.2.2.2.2.1 hi8 ek 8 (Nat.le_refl _) hi8]
            exact ⟨rfl, rfl, tg, W, ⟨hn14, hF⟩, hf14⟩
    refine r_iconst (v := nI 0) hC dX7_placeOf_17 (by decide) ?_
    refine r_istore_n hC dX7_placeOf_18 rfl (by decide) ?_
    exact loop 8 0 rfl (fun j hj => absurd hj (by omega))
  · refine r_out hC hQ hT (Nat.le_of_ble_eq_true rfl) (Nat.le_of_ble_eq_true rfl) ⟨0, ?_, by rw [x3.1]; rfl⟩
    unfold oPlaceOf
    rw [if_neg (by rw [ixb_f x3.2]; decide)]
end SetA

