/-! ===== the model spoils what a book does not have any more ===== -/
theorem ct_add (p : Nat → Bool) (a : Nat) : ∀ b, ct p (a + b) = ct p a + ct (fun i => p (a + i)) b := by
  intro b
  induction b with
  | zero => rfl
  | succ b ih =>
    show ct p (a + b) + (if p (a + b) = true then 1 else 0) = _
    rw [ih]
    simp only [ct]
    omega
theorem sm_add (p : Nat → Nat) (a : Nat) : ∀ b, sm p (a + b) = sm p a + sm (fun i => p (a + i)) b := by
  intro b
  induction b with
  | zero => rfl
  | succ b ih =>
    show sm p (a + b) + p (a + b) = _
    rw [ih]
    simp only [sm]
    omega
theorem ct_mul (p : Nat → Bool) (w : Nat) : ∀ m, ct p (w * m) = sm (fun k => ct (fun f => p (w * k + f)) w) m := by
  intro m
  induction m with
  | zero => rfl
  | succ m ih =>
    rw [Nat.mul_succ, ct_add, ih]
    rfl
theorem sm_mul (p : Nat → Nat) (w : Nat) : ∀ m, sm p (w * m) = sm (fun k => sm (fun f => p (w * k + f)) w) m := by
  intro m
  induction m with
  | zero => rfl
  | succ m ih =>
    rw [Nat.mul_succ, sm_add, ih]
    rfl
theorem sm_cut {g : Nat → Nat} {n : Nat} : ∀ m, n ≤ m → (∀ i, n ≤ i → i < m → g i = 0) → sm g m = sm g n := by
  intro m
  induction m with
  | zero => intro h _; rw [Nat.le_zero.mp h]
  | succ m ih =>
    intro h hz
    rcases Nat.lt_or_ge m n with z | z
    · have : n = m + 1 := by omega
      rw [this]
    · simp only [sm]
      rw [ih z (fun i h1 h2 => hz i h1 (by omega)), hz m z (by omega)]
      rfl
theorem LX_o {o c f : Nat} (hc : c < 3) (hf : f < 43) : LX o c f / 43 / 3 = o ∧ LX o c f / 43 % 3 = c ∧ LX o c f % 43 = f := by
  unfold LX
  have h1 : (43 * (3 * o + c) + f) / 43 = 3 * o + c := by omega
  rw [h1]
  omega
theorem LX_n (n : Nat) : LX (n / 43 / 3) (n / 43 % 3) (n % 43) = n := by
  unfold LX
  omega
theorem LX_lt {o c f : Nat} (ho : o < 5) (hc : c < 3) (hf : f < 43) : LX o c f < 645 := by
  unfold LX
  omega
/-- the model's leaf n is one that is spoiled -/
def qF (A : AS) (i n : Nat) : Bool := decide (n / 43 / 3 < aNo A) && decide (n / 43 % 3 < aNc A (n / 43 / 3)) && flowQ A i (n / 43 / 3) (n / 43 % 3) (n % 43)
/-- a count over all leaves, told by orders, copies and frames -/
theorem ct_LX {A : AS} (hv : VU A) (Q : Nat → Nat → Nat → Bool) : ct (fun n => decide (n / 43 / 3 < aNo A) && decide (n / 43 % 3 < aNc A (n / 43 / 3)) && Q (n / 43 / 3) (n / 43 % 3) (n % 43)) 645 = sm (fun o => sm (fun c => ct (fun f => Q o c f) 43) (aNc A o)) (aNo A) := by
  rw [show 645 = 43 * 15 from rfl, ct_mul, show 15 = 3 * 5 from rfl, sm_mul]
  rw [sm_cut (n := aNo A) 5 hv.2.1 (fun o h1 h2 => ?_)]
  · refine sm_cong _ (fun o ho => ?_)
    have h3 := (hv.2.2.2.2.2.1 o ho).2.2
    rw [sm_cut (n := aNc A o) 3 h3 (fun c h1 h2 => ?_)]
    · refine sm_cong _ (fun c hc => ct_cong 43 (fun f hf => ?_))
      obtain ⟨e1, e2, e3⟩ := LX_o (o := o) (c := c) (f := f) (by omega) hf
      show (decide (LX o c f / 43 / 3 < aNo A) && decide (LX o c f / 43 % 3 < aNc A (LX o c f / 43 / 3)) && Q (LX o c f / 43 / 3) (LX o c f / 43 % 3) (LX o c f % 43)) = _
      rw [e1, e2, e3, decide_eq_true ho, decide_eq_true hc]
      rfl
    · refine ct_0 43 (fun f hf => ?_)
      obtain ⟨e1, e2, e3⟩ := LX_o (o := o) (c := c) (f := f) h2 hf
      show (decide (LX o c f / 43 / 3 < aNo A) && decide (LX o c f / 43 % 3 < aNc A (LX o c f / 43 / 3)) && Q (LX o c f / 43 / 3) (LX o c f / 43 % 3) (LX o c f % 43)) = false
      rw [e1, e2, decide_eq_false (show ¬ c < aNc A o by omega), Bool.and_false, Bool.false_and]
  · refine sm_0 3 (fun c hc => ct_0 43 (fun f hf => ?_))
    obtain ⟨e1, e2, e3⟩ := LX_o (o := o) (c := c) (f := f) hc hf
    show (decide (LX o c f / 43 / 3 < aNo A) && decide (LX o c f / 43 % 3 < aNc A (LX o c f / 43 / 3)) && Q (LX o c f / 43 / 3) (LX o c f / 43 % 3) (LX o c f % 43)) = false
    rw [e1, decide_eq_false (show ¬ o < aNo A by omega), Bool.false_and, Bool.false_and]
theorem qF_ct {A : AS} (hv : VU A) (i : Nat) : ct (qF A i) 645 = flowN A i := ct_LX hv (flowQ A i)
/-- a row of leaves with -1 where p holds, up to n -/
def mk1 (p : Nat → Bool) (r : Nat → Int32) (n : Nat) : Nat → Int32 := fun m => if m < n ∧ p m = true then -1 else r m
theorem mk1_0 (p : Nat → Bool) (r : Nat → Int32) : mk1 p r 0 = r := by
  funext m
  show (if m < 0 ∧ _ then _ else r m) = r m
  rw [if_neg (fun z => absurd z.1 (Nat.not_lt_zero m))]
theorem mk1_f {p : Nat → Bool} {r : Nat → Int32} {n : Nat} (h : p n = false) : mk1 p r (n + 1) = mk1 p r n := by
  funext m
  unfold mk1
  by_cases hm : m = n
  · subst hm
    rw [if_neg (fun z => by rw [h] at z; exact absurd z.2 (by decide)), if_neg (fun z => absurd z.1 (Nat.lt_irrefl m))]
  · by_cases hz : m < n ∧ p m = true
    · rw [if_pos hz, if_pos ⟨by omega, hz.2⟩]
    · rw [if_neg hz, if_neg (fun z => hz ⟨by omega, z.2⟩)]
theorem mk1_t {p : Nat → Bool} {r : Nat → Int32} {n : Nat} (h : p n = true) : upd (mk1 p r n) n (-1) = mk1 p r (n + 1) := by
  funext m
  by_cases hm : m = n
  · subst hm
    rw [pk_us]
    unfold mk1
    rw [if_pos ⟨Nat.lt_succ_self m, h⟩]
  · rw [pk_un hm]
    unfold mk1
    by_cases hz : m < n ∧ p m = true
    · rw [if_pos hz, if_pos ⟨by omega, hz.2⟩]
    · rw [if_neg hz, if_neg (fun z => hz ⟨by omega, z.2⟩)]
theorem mk1_n {p : Nat → Bool} {r : Nat → Int32} {n : Nat} : mk1 p r n n = r n := if_neg (fun z => absurd z.1 (Nat.lt_irrefl n))
def uR2 (R : Nat → Nat → Int32) (g9 g11 : Nat → Int32) : Nat → Nat → Int32 := uR (uR R 9 g9) 11 g11
theorem uR2_2 (R : Nat → Nat → Int32) (a b c d : Nat → Int32) : uR (uR (uR2 R a b) 9 c) 11 d = uR2 R c d := by
  funext k
  by_cases h11 : k = 11
  · simp only [uR2, uR, if_pos h11]
  · by_cases h9 : k = 9
    · simp only [uR2, uR, if_neg h11, if_pos h9]
    · simp only [uR2, uR, if_neg h11, if_neg h9]
theorem uR2_id (R : Nat → Nat → Int32) : uR2 R (R 9) (R 11) = R := by
  funext k
  unfold uR2 uR
  by_cases h11 : k = 11
  · rw [if_pos h11, h11]
  · rw [if_neg h11]
    by_cases h9 : k = 9
    · rw [if_pos h9, h9]
    · rw [if_neg h9]
theorem uN_uN (N : Nat → Int32) (k : Nat) (a b : Int32) : uN (uN N k a) k b = uN N k b := by
  funext m
  unfold uN
  by_cases h : m = k
  · rw [if_pos h, if_pos h]
  · rw [if_neg h, if_neg h, if_neg h]
theorem uN_id {N : Nat → Int32} {k : Nat} {v : Int32} (h : N k = v) : uN N k v = N := by
  funext m
  unfold uN
  by_cases hm : m = k
  · rw [if_pos hm, hm, h]
  · rw [if_neg hm]
section MFlows
variable {l : Launch} {G : GG} {S S0 S' : PS} {tg tg' : TG} {md : Nat} {V : Nat → Nat} {N : Nat → Int32} {R : Nat → Nat → Int32} {A : AS}
set_option maxRecDepth 100000 in
theorem m_isBoundCopy (hl : l.stackTraces = false) (hM : MM S tg md V N R) {o c : Nat} (ho : o < 5) (hc : c < 3) :
    MT l G S yX8_isBoundCopy cX8_isBoundCopy 3 (some .boolean) (rmA 0) [va_rf (some md), .int (nI o), .int (nI c)] (fun v S' => v = some (.int (bI (decide (R 8 (3 * o + c) ≠ -1)))) ∧ S' = S) (fun _ => False) := by
  refine MT_of (by decide +kernel) hl rfl (Nat.le_of_ble_eq_true rfl) (fun Z hC hzl hnm hT hQ => ?_)
  change J G Z S 0 0 0 [some (va_rf (some md)), some (.int (nI o)), some (.int (nI c))] []
  refine r_aload_n hC dX8_isBoundCopy_0 rfl rfl ?_
  refine r_getR  hC fl_X8_28 dX8_isBoundCopy_1 (hM.kd) (hM.r 8 rfl) ?_
  refine r_iconst (v := nI 3) hC dX8_isBoundCopy_4 (by decide) ?_
  refine r_iload_n hC dX8_isBoundCopy_5 rfl rfl ?_
  refine r_imul hC dX8_isBoundCopy_6 ?_
  refine r_iload_n hC dX8_isBoundCopy_7 rfl rfl ?_
  refine r_iadd hC dX8_isBoundCopy_8 ?_
  refine r_iald hC dX8_isBoundCopy_9 (hM.k 8 rfl) (by rw [pk_mul, nI_add]) (hM.lt 8 rfl (by show _ < 15; omega)) (hM.b 8 rfl) (congrFun (hM.a 8 rfl) _) ?_
  refine r_iconst (v := (-1)) hC dX8_isBoundCopy_10 (by decide) ?_
  refine r_iceq (tgt := 18) hC dX8_isBoundCopy_11 (by decide) (fun h11 => ?_) (fun h11 => ?_)
  · refine r_iconst (v := nI 0) hC dX8_isBoundCopy_18 (by decide) ?_
    refine r_zret hC hQ rfl (by decide) dX8_isBoundCopy_19 (Nat.le_of_ble_eq_true rfl) (Nat.le_of_ble_eq_true rfl) ?_
    rw [decide_eq_false (fun z => z h11)]
    exact ⟨rfl, rfl⟩
  · refine r_iconst (v := nI 1) hC dX8_isBoundCopy_14 (by decide) ?_
    refine r_goto (tgt := 19) hC dX8_isBoundCopy_15 (by decide) ?_
    refine r_zret hC hQ rfl (by decide) dX8_isBoundCopy_19 (Nat.le_of_ble_eq_true rfl) (Nat.le_of_ble_eq_true rfl) ?_
    rw [decide_eq_true h11]
    exact ⟨rfl, rfl⟩
theorem bd_ne (hv : VU A) (hO : mOr (R 6) (R 7) (R 8) A) {o c : Nat} (ho : o < aNo A) (hc : c < 3) : decide (R 8 (3 * o + c) ≠ -1) = decide (aBd A o c ≠ 0) := by
  have h := (hO o ho).2.2 c hc
  have h44 := hv.2.2.2.2.2.2.1 o ho c
  refine decide_eq_decide.mpr ?_
  rw [h]
  by_cases z : aBd A o c = 0
  · rw [if_pos z]; exact ⟨fun w => absurd rfl w, fun w => absurd z w⟩
  · rw [if_neg z]
    refine ⟨fun _ => z, fun _ w => ?_⟩
    have := nI_pos (n := aBd A o c - 1) (by omega)
    rw [w] at this
    exact this (by decide)
set_option maxRecDepth 100000 in
theorem m_spoils (hl : l.stackTraces = false) (hM : MM S tg md V N R) {n : Nat} (hn : n < 645) :
    MT l G S yX8_spoils cX8_spoils 2 none (rmA 0) [va_rf (some md), .int (nI n)] (fun v S' => v = none ∧ MX S S' tg md V (uN N 19 (N 19 + nI 1)) (uR (uR R 9 (upd (R 9) n (-1))) 11 (upd (R 11) n (-1)))) (fun _ => False) := by
  refine MT_of (by decide +kernel) hl rfl (Nat.le_of_ble_eq_true rfl) (fun Z hC hzl hnm hT hQ => ?_)
  change J G Z S 0 0 0 [some (va_rf (some md)), some (.int (nI n))] []
  refine r_aload_n hC dX8_spoils_0 rfl rfl ?_
  refine r_getR  hC fl_X8_31 dX8_spoils_1 (hM.kd) (hM.r 9 rfl) ?_
  refine r_iload_n hC dX8_spoils_4 rfl rfl ?_
  refine r_iconst (v := (-1)) hC dX8_spoils_5 (by decide) ?_
  refine r_iast hC dX8_spoils_6 (hM.k 9 rfl) (rfl) (hM.lt 9 rfl (by show _ < 645; omega)) (hM.b 9 rfl) ?_
  have h1 := (MX.rf hM).st 9 rfl (upd (pA S (V 9)) n (-1))
  refine r_aload_n hC dX8_spoils_7 rfl rfl ?_
  refine r_getR  hC fl_X8_37 dX8_spoils_8 (h1.1.kd) (h1.1.r 11 rfl) ?_
  refine r_iload_n hC dX8_spoils_11 rfl rfl ?_
  refine r_iconst (v := (-1)) hC dX8_spoils_12 (by decide) ?_
  refine r_iast hC dX8_spoils_13 (h1.1.k 11 rfl) (rfl) (h1.1.lt 11 rfl (by show _ < 645; omega)) (h1.1.b 11 rfl) ?_
  have h2 := h1.st 11 rfl (upd (pA (sA S (V 9) (upd (pA S (V 9)) n (-1))) (V 11)) n (-1))
  refine r_aload_n hC dX8_spoils_14 rfl rfl ?_
  refine r_dup hC dX8_spoils_15 rfl ?_
  refine r_getI hC fl_X8_90 rfl dX8_spoils_16 (h2.1.kd) (h2.1.n 19 rfl) ?_
  refine r_iconst (v := nI 1) hC dX8_spoils_19 (by decide) ?_
  refine r_iadd hC dX8_spoils_20 ?_
  refine r_putI hC fl_X8_90 rfl (by decide) dX8_spoils_21 (h2.1.kd) (fun h => absurd h (by decide)) ?_
  refine r_vret hC hQ rfl dX8_spoils_24 (Nat.le_of_ble_eq_true rfl) (Nat.le_of_ble_eq_true rfl) ?_
  have h3 := h2.sn 19 rfl (N 19 + nI 1)
  have e9 : pA S (V 9) = R 9 := hM.a 9 rfl
  have e11 : pA (sA S (V 9) (upd (pA S (V 9)) n (-1))) (V 11) = R 11 := h1.1.a 11 rfl
  rw [e11, e9] at h3
  refine ⟨rfl, ?_⟩
  rw [e11, e9]
  exact h3
set_option maxRecDepth 100000 in
set_option maxHeartbeats 2000000 in
theorem m_flows (hl : l.stackTraces = false) (hM : MM S tg md V N R) (hv : VU A) (hN5 : N 5 = nI (aNo A)) (hB : mBk (R 1) (R 2) (R 3) (R 4) A) (hO : mOr (R 6) (R 7) (R 8) A) (hLv : mLv (R 9) (R 10) (R 11) A) {i sp : Nat} (hi : i < aNb A) (hsp : N 19 = nI sp) :
    MT l G S yX8_flows cX8_flows 9 (some .int) (rmA 2) [va_rf (some md), .int (nI i)] (fun v S' => v = some (.int (nI (flowN A i))) ∧ MX S S' tg md V (uN N 19 (nI (sp + flowN A i))) (uR2 R (mk1 (qF A i) (R 9) 645) (mk1 (qF A i) (R 11) 645))) (fun _ => False) := by
  have h4 := hv.1
  have h5 := hv.2.1
  have h43 := hv.len hi
  refine MT_of (by decide +kernel) hl rfl (Nat.le_of_ble_eq_true rfl) (fun Z hC hzl hnm hT hQ => ?_)
  change J G Z S 0 0 0 [some (va_rf (some md)), some (.int (nI i)), none, none, none, none, none, none, none] []
  have hzs : (zl Z).stackTraces = false := by rw [hzl]; exact hl
  have loop : ∀ (d n : Nat) (S1 : PS) (o5 o6 o7 o8 : Option Value), n + d = 645 → MX S S1 tg md V (uN N 19 (nI (sp + ct (qF A i) n))) (uR2 R (mk1 (qF A i) (R 9) n) (mk1 (qF A i) (R 11) n)) →
      J G Z S1 0 0 14 [some (va_rf (some md)), some (.int (nI i)), some (.int (nI sp)), some (.int (nI (aLen A i))), some (.int (nI n)), o5, o6, o7, o8] [] := by
    intro d
    induction d with
    | zero =>
      intro n S1 o5 o6 o7 o8 hn h1
      have hn : n = 645 := by omega
      subst hn
      have hM1 := h1.1
      refine r_iload hC dX8_flows_14 rfl ?_
      refine r_sipush (v := nI 645) hC dX8_flows_16 (by decide) ?_
      refine r_icge (tgt := 148) hC dX8_flows_19 (by decide) (fun h19 => ?_) (fun h19 => ?_)
      · refine r_aload_n hC dX8_flows_148 rfl rfl ?_
        refine r_getI hC fl_X8_90 rfl dX8_flows_149 (hM1.kd) (hM1.n 19 rfl) ?_
        refine r_iload_n hC dX8_flows_152 rfl rfl ?_
        refine r_isub hC dX8_flows_153 ?_
        have e : (uN N 19 (nI (sp + ct (qF A i) 645))) 19 - nI sp = nI (ct (qF A i) 645) := by
          rw [uN_s, pk_sub (by omega), Nat.add_sub_cancel_left]
        rw [e, qF_ct hv]
        refine r_iret hC hQ rfl dX8_flows_154 (Nat.le_of_ble_eq_true rfl) (Nat.le_of_ble_eq_true rfl) ?_
        rw [qF_ct hv] at h1
        exact ⟨rfl, h1⟩
      · exact absurd (show nI 645 ≤ nI 645 from Int32.le_refl _) h19
    | succ d ih =>
      intro n S1 o5 o6 o7 o8 hn h1
      have hn645 : n < 645 := by omega
      have hM1 := h1.1
      obtain ⟨o, eo⟩ : ∃ o, o = n / 43 / 3 := ⟨_, rfl⟩
      obtain ⟨c, ec⟩ : ∃ c, c = n / 43 % 3 := ⟨_, rfl⟩
      obtain ⟨f, ef⟩ : ∃ f, f = n % 43 := ⟨_, rfl⟩
      have ho5 : o < 5 := by omega
      have hc3 : c < 3 := by omega
      have hf43 : f < 43 := by omega
      have hLX : LX o c f = n := by rw [eo, ec, ef]; exact LX_n n
      have hqF : qF A i n = (decide (o < aNo A) && decide (c < aNc A o) && flowQ A i o c f) := by unfold qF; rw [← eo, ← ec, ← ef]
      have nxt : ∀ S2 o8', MX S S2 tg md V (uN N 19 (nI (sp + ct (qF A i) (n + 1)))) (uR2 R (mk1 (qF A i) (R 9) (n + 1)) (mk1 (qF A i) (R 11) (n + 1))) →
          J G Z S2 0 0 142 [some (va_rf (some md)), some (.int (nI i)), some (.int (nI sp)), some (.int (nI (aLen A i))), some (.int (nI n)), some (.int (nI o)), some (.int (nI c)), some (.int (nI f)), o8'] [] := by
        intro S2 o8' h2
        refine r_iinc hC dX8_flows_142 rfl (ii1 _) ?_
        refine r_goto (tgt := 14) hC dX8_flows_145 (by decide) ?_
        exact ih (n + 1) S2 _ _ _ _ (by omega) h2
      have same : qF A i n = false → MX S S1 tg md V (uN N 19 (nI (sp + ct (qF A i) (n + 1)))) (uR2 R (mk1 (qF A i) (R 9) (n + 1)) (mk1 (qF A i) (R 11) (n + 1))) := by
        intro hq
        rw [mk1_f hq, mk1_f hq, show ct (qF A i) (n + 1) = ct (qF A i) n from by simp only [ct, hq, Bool.false_eq_true, if_false, Nat.add_zero]]
        exact h1
      have no : qF A i n = false → J G Z S1 0 0 83 [some (va_rf (some md)), some (.int (nI i)), some (.int (nI sp)), some (.int (nI (aLen A i))), some (.int (nI n)), some (.int (nI o)), some (.int (nI c)), some (.int (nI f)), o8] [] := by
        intro hq
        refine r_iconst (v := nI 0) hC dX8_flows_83 (by decide) ?_
        refine r_istore hC dX8_flows_84 (by decide) ?_
        refine r_iload hC dX8_flows_86 rfl ?_
        refine r_ifeq (tgt := 142) hC dX8_flows_88 (by decide) (fun h88 => ?_) (fun h88 => ?_)
        · exact nxt S1 _ (same hq)
        · exact absurd rfl h88
      refine r_iload hC dX8_flows_14 rfl ?_
      refine r_sipush (v := nI 645) hC dX8_flows_16 (by decide) ?_
      refine r_icge (tgt := 148) hC dX8_flows_19 (by decide) (fun h19 => ?_) (fun h19 => ?_)
      · exact absurd ((nI_leI (by decide) (by omega)).mp h19) (by omega)
      · refine r_iload hC dX8_flows_22 rfl ?_
        refine r_bipush (v := nI 43) hC dX8_flows_24 (by decide) ?_
        refine r_idiv hC dX8_flows_26 (by decide) ?_
        rw [pk_div (by omega) (by decide) (by decide)]
        refine r_iconst (v := nI 3) hC dX8_flows_27 (by decide) ?_
        refine r_idiv hC dX8_flows_28 (by decide) ?_
        rw [pk_div (by omega) (by decide) (by decide), ← eo]
        refine r_istore hC dX8_flows_29 (by decide) ?_
        refine r_iload hC dX8_flows_31 rfl ?_
        refine r_bipush (v := nI 43) hC dX8_flows_33 (by decide) ?_
        refine r_idiv hC dX8_flows_35 (by decide) ?_
        rw [pk_div (by omega) (by decide) (by decide)]
        refine r_iconst (v := nI 3) hC dX8_flows_36 (by decide) ?_
        refine r_irem hC dX8_flows_37 (by decide) ?_
        rw [pk_rem (by omega) (by decide) (by decide), ← ec]
        refine r_istore hC dX8_flows_38 (by decide) ?_
        refine r_iload hC dX8_flows_40 rfl ?_
        refine r_bipush (v := nI 43) hC dX8_flows_42 (by decide) ?_
        refine r_irem hC dX8_flows_44 (by decide) ?_
        rw [pk_rem (by omega) (by decide) (by decide), ← ef]
        refine r_istore hC dX8_flows_45 (by decide) ?_
        refine r_iload hC dX8_flows_47 rfl ?_
        refine r_aload_n hC dX8_flows_49 rfl rfl ?_
        refine r_getI hC fl_X8_79 rfl dX8_flows_50 (hM1.kd) ((hM1.n 5 rfl).trans hN5) ?_
        refine r_icge (tgt := 83) hC dX8_flows_53 (by decide) (fun h53 => ?_) (fun h53 => ?_)
        · have : ¬ o < aNo A := fun z => absurd ((nI_leI (by omega) (by omega)).mp h53) (by omega)
          exact no (by rw [hqF, decide_eq_false this]; rfl)
        · have hoo : o < aNo A := Nat.lt_of_not_le (fun z => h53 (nI_le z (by omega)))
          obtain ⟨q1, q2, q3⟩ := hO o hoo
          have hob := (hv.2.2.2.2.2.1 o hoo).1
          have h3 := (hv.2.2.2.2.2.1 o hoo).2.2
          refine r_aload_n hC dX8_flows_56 rfl rfl ?_
          refine r_getR  hC fl_X8_22 dX8_flows_57 (hM1.kd) (hM1.r 6 rfl) ?_
          refine r_iload hC dX8_flows_60 rfl ?_
          refine r_iald hC dX8_flows_62 (hM1.k 6 rfl) (rfl) (hM1.lt 6 rfl (by show _ < 5; omega)) (hM1.b 6 rfl) ((congrFun (hM1.a 6 rfl) _).trans (q1)) ?_
          refine r_iload_n hC dX8_flows_63 rfl rfl ?_
          refine r_icne (tgt := 83) hC dX8_flows_64 (by decide) (fun h64 => ?_) (fun h64 => ?_)
          · have hne : aOb A o ≠ i := fun z => h64 (by rw [z])
            refine no ?_
            rw [hqF]
            unfold flowQ
            rw [decide_eq_false hne]
            simp
          · have hob' : aOb A o = i := (nI_eq (by omega) (by omega)).mp h64
            refine r_iload hC dX8_flows_67 rfl ?_
            refine r_aload_n hC dX8_flows_69 rfl rfl ?_
            refine r_getR  hC fl_X8_25 dX8_flows_70 (hM1.kd) (hM1.r 7 rfl) ?_
            refine r_iload hC dX8_flows_73 rfl ?_
            refine r_iald hC dX8_flows_75 (hM1.k 7 rfl) (rfl) (hM1.lt 7 rfl (by show _ < 5; omega)) (hM1.b 7 rfl) ((congrFun (hM1.a 7 rfl) _).trans (q2)) ?_
            refine r_icge (tgt := 83) hC dX8_flows_76 (by decide) (fun h76 => ?_) (fun h76 => ?_)
            · have : ¬ c < aNc A o := fun z => absurd ((nI_leI (by omega) (by omega)).mp h76) (by omega)
              refine no ?_
              rw [hqF, decide_eq_false this]
              simp
            · have hcc : c < aNc A o := Nat.lt_of_not_le (fun z => h76 (nI_le z (by omega)))
              have hq2 : qF A i n = flowQ A i o c f := by rw [hqF, decide_eq_true hoo, decide_eq_true hcc]; rfl
              obtain ⟨w1, w2, w3⟩ := hLv o hoo c hc3 f hf43
              have hR9 : (uR2 R (mk1 (qF A i) (R 9) n) (mk1 (qF A i) (R 11) n)) 9 n = (if aHl A o c f = 1 then aPos A o c f else -1) := by
                rw [← w1, hLX]
                show mk1 (qF A i) (R 9) n n = R 9 n
                exact mk1_n
              have hvl := hv.2.2.2.2.2.2.2.2.2.2 o hoo c f hf43
              refine r_iconst (v := nI 1) hC dX8_flows_79 (by decide) ?_
              refine r_goto (tgt := 84) hC dX8_flows_80 (by decide) ?_
              refine r_istore hC dX8_flows_84 (by decide) ?_
              refine r_iload hC dX8_flows_86 rfl ?_
              refine r_ifeq (tgt := 142) hC dX8_flows_88 (by decide) (fun h88 => ?_) (fun h88 => ?_)
              · exact absurd h88 (by decide)
              · skip
                refine r_aload_n hC dX8_flows_91 rfl rfl ?_
                refine r_getR  hC fl_X8_31 dX8_flows_92 (hM1.kd) (hM1.r 9 rfl) ?_
                refine r_iload hC dX8_flows_95 rfl ?_
                refine r_iald hC dX8_flows_97 (hM1.k 9 rfl) (rfl) (hM1.lt 9 rfl (by show _ < 645; omega)) (hM1.b 9 rfl) ((congrFun (hM1.a 9 rfl) _).trans (hR9)) ?_
                refine r_iconst (v := (-1)) hC dX8_flows_98 (by decide) ?_
                refine r_iceq (tgt := 142) hC dX8_flows_99 (by decide) (fun h99 => ?_) (fun h99 => ?_)
                · have hh : aHl A o c f ≠ 1 := fun z => by
                    rw [if_pos z] at h99
                    exact (hvl.2 z).2.2 h99
                  refine nxt S1 _ (same ?_)
                  rw [hq2]
                  cases z : flowQ A i o c f with
                  | false => rfl
                  | true => exact absurd (flowQ_iff.mp z).2.2.1 hh
                · have hh : aHl A o c f = 1 := Classical.byContradiction (fun z => h99 (if_neg z))
                  refine r_aload_n hC dX8_flows_102 rfl rfl ?_
                  refine r_iload hC dX8_flows_103 rfl ?_
                  refine r_iload hC dX8_flows_105 rfl ?_
                  refine r_cV (as := [.int (nI o), .int (nI c)]) hC (m_isBoundCopy hzs hM1 ho5 hc3) cs_X8_isBoundCopy q_1033 q_1035 q_56 (hM1.kd) (by decide) rfl dX8_flows_107 rfl rfl ⟨Nat.le_of_ble_eq_true rfl, Nat.le_of_ble_eq_true rfl⟩ (Nat.le_of_ble_eq_true rfl) ⟨Nat.le_of_ble_eq_true rfl, Nat.le_of_ble_eq_true rfl⟩ (fun v107 S107 p107 => ?_) (fun _ x => x.elim)
                  obtain ⟨rfl, e107⟩ := p107
                  rw [e107, show (uR2 R (mk1 (qF A i) (R 9) n) (mk1 (qF A i) (R 11) n)) 8 = R 8 from rfl, bd_ne hv hO hoo hc3]
                  refine r_ifne (tgt := 142) hC dX8_flows_110 (by decide) (fun h110 => ?_) (fun h110 => ?_)
                  · have hb : aBd A o c ≠ 0 := fun z => by
                      rw [decide_eq_false (fun w => w z)] at h110
                      exact h110 rfl
                    refine nxt S1 _ (same ?_)
                    rw [hq2]
                    cases z : flowQ A i o c f with
                    | false => rfl
                    | true => exact absurd (flowQ_iff.mp z).2.1 hb
                  · have hb : aBd A o c = 0 := Classical.byContradiction (fun z => by
                      rw [decide_eq_true z] at h110
                      exact absurd h110 (by decide))
                    have spo : aPos A o c f ≠ posA A i f → J G Z S1 0 0 136 [some (va_rf (some md)), some (.int (nI i)), some (.int (nI sp)), some (.int (nI (aLen A i))), some (.int (nI n)), some (.int (nI o)), some (.int (nI c)), some (.int (nI f)), some (.int (nI 1))] [] := by
                      intro hp
                      have hq : qF A i n = true := by rw [hq2]; exact flowQ_iff.mpr ⟨hob', hb, hh, hp⟩
                      refine r_aload_n hC dX8_flows_136 rfl rfl ?_
                      refine r_iload hC dX8_flows_137 rfl ?_
                      refine r_cV (as := [.int (nI n)]) hC (m_spoils hzs hM1 hn645) cs_X8_spoils q_1044 q_1046 q_58 (hM1.kd) (by decide) rfl dX8_flows_139 rfl rfl ⟨Nat.le_of_ble_eq_true rfl, Nat.le_of_ble_eq_true rfl⟩ (Nat.le_of_ble_eq_true rfl) ⟨Nat.le_of_ble_eq_true rfl, Nat.le_of_ble_eq_true rfl⟩ (fun v139 S139 p139 => ?_) (fun _ x => x.elim)
                      obtain ⟨rfl, h2⟩ := p139
                      refine nxt S139 _ ?_
                      have h3 := h1.tr h2
                      rw [uN_uN, uN_s, nI_add, uR2_2] at h3
                      have ec1 : ct (qF A i) (n + 1) = ct (qF A i) n + 1 := by simp only [ct, hq, if_true]
                      rw [ec1, ← mk1_t hq, ← mk1_t hq]
                      exact h3
                    refine r_iload hC dX8_flows_113 rfl ?_
                    refine r_iload_n hC dX8_flows_115 rfl rfl ?_
                    refine r_icge (tgt := 136) hC dX8_flows_116 (by decide) (fun h116 => ?_) (fun h116 => ?_)
                    · have hfl : aLen A i ≤ f := (nI_leI (by omega) (by omega)).mp h116
                      refine spo (fun z => ?_)
                      have := (hvl.2 hh).2.2
                      rw [z] at this
                      unfold posA at this
                      rw [if_pos hfl] at this
                      exact this rfl
                    · have hfl : f < aLen A i := Nat.lt_of_not_le (fun z => h116 (nI_le z (by omega)))
                      refine r_aload_n hC dX8_flows_119 rfl rfl ?_
                      refine r_iload_n hC dX8_flows_120 rfl rfl ?_
                      refine r_iload hC dX8_flows_121 rfl ?_
                      refine r_cV (as := [.int (nI i), .int (nI f)]) hC (m_positionOf hzs hM1 hv hB hi hfl) cs_X8_positionOf q_1037 q_1039 q_57 (hM1.kd) (by decide) rfl dX8_flows_123 rfl rfl ⟨Nat.le_of_ble_eq_true rfl, Nat.le_of_ble_eq_true rfl⟩ (Nat.le_of_ble_eq_true rfl) ⟨Nat.le_of_ble_eq_true rfl, Nat.le_of_ble_eq_true rfl⟩ (fun v123 S123 p123 => ?_) (fun _ x => x.elim)
                      obtain ⟨rfl, e123⟩ := p123
                      rw [e123]
                      refine r_aload_n hC dX8_flows_126 rfl rfl ?_
                      refine r_getR  hC fl_X8_31 dX8_flows_127 (hM1.kd) (hM1.r 9 rfl) ?_
                      refine r_iload hC dX8_flows_130 rfl ?_
                      refine r_iald hC dX8_flows_132 (hM1.k 9 rfl) (rfl) (hM1.lt 9 rfl (by show _ < 645; omega)) (hM1.b 9 rfl) ((congrFun (hM1.a 9 rfl) _).trans (hR9)) ?_
                      refine r_iceq (tgt := 142) hC dX8_flows_133 (by decide) (fun h133 => ?_) (fun h133 => ?_)
                      · have hpe : posA A i f = aPos A o c f := by rw [h133, if_pos hh]
                        refine nxt S1 _ (same ?_)
                        rw [hq2]
                        cases z : flowQ A i o c f with
                        | false => rfl
                        | true => exact absurd hpe.symm (flowQ_iff.mp z).2.2.2
                      · refine spo (fun z => h133 ?_)
                        rw [if_pos hh, z]
  refine r_aload_n hC dX8_flows_0 rfl rfl ?_
  refine r_getI hC fl_X8_90 rfl dX8_flows_1 (hM.kd) ((hM.n 19 rfl).trans hsp) ?_
  refine r_istore_n hC dX8_flows_4 rfl (by decide) ?_
  refine r_aload_n hC dX8_flows_5 rfl rfl ?_
  refine r_iload_n hC dX8_flows_6 rfl rfl ?_
  refine r_cV (as := [.int (nI i)]) hC (m_framesOf hzs hM hv hB hi) cs_X8_framesOf q_1029 q_1031 q_55 (hM.kd) (by decide) rfl dX8_flows_7 rfl rfl ⟨Nat.le_of_ble_eq_true rfl, Nat.le_of_ble_eq_true rfl⟩ (Nat.le_of_ble_eq_true rfl) ⟨Nat.le_of_ble_eq_true rfl, Nat.le_of_ble_eq_true rfl⟩ (fun v7 S7 p7 => ?_) (fun _ x => x.elim)
  obtain ⟨rfl, e7⟩ := p7
  rw [e7]
  refine r_istore_n hC dX8_flows_10 rfl (by decide) ?_
  refine r_iconst (v := nI 0) hC dX8_flows_11 (by decide) ?_
  refine r_istore hC dX8_flows_12 (by decide) ?_
  refine loop 645 0 S none none none none rfl ?_
  rw [mk1_0, mk1_0, uR2_id, show sp + ct (qF A i) 0 = sp from rfl, uN_id hsp]
  exact MX.rf hM
end MFlows

