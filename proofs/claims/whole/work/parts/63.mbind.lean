/-! ===== the model binds ===== -/
theorem mk1_no {p : Nat → Bool} {r : Nat → Int32} {n : Nat} (h : ∀ m, m < n → p m = false) : mk1 p r n = r := by
  funext m
  exact if_neg (fun z => by rw [h m z.1] at z; exact absurd z.2 (by decide))
def bQ (A : AS) (o c m : Nat) : Bool := decide (m / 43 / 3 = o) && decide (m / 43 % 3 = c) && bndQ A o c (m % 43)
theorem bQ_iff {A : AS} {o c m : Nat} : bQ A o c m = true ↔ m / 43 / 3 = o ∧ m / 43 % 3 = c ∧ bndQ A o c (m % 43) = true := by
  unfold bQ
  simp only [Bool.and_eq_true, decide_eq_true_eq, and_assoc]
theorem bQ_lx {A : AS} {o c f : Nat} (hc : c < 3) (hf : f < 43) : bQ A o c (LX o c f) = bndQ A o c f := by
  obtain ⟨x1, x2, x3⟩ := LX_o (o := o) hc hf
  unfold bQ
  rw [x1, x2, x3, decide_eq_true rfl, decide_eq_true rfl]
  rfl
theorem bQ_lo {A : AS} {o c : Nat} (hc : c < 3) : ∀ m, m < LX o c 0 → bQ A o c m = false := by
  intro m hm
  refine Bool.eq_false_iff.mpr (fun z => ?_)
  obtain ⟨z1, z2, -⟩ := bQ_iff.mp z
  unfold LX at hm
  omega
theorem bndQ_iff {A : AS} {o c f : Nat} : bndQ A o c f = true ↔ aHl A o c f = 1 ∧ lsA A o c (aLen A (aOb A o)) + aTol A + 1 < aTr A (aLs A o c f) := by
  unfold bndQ
  simp only [Bool.and_eq_true, decide_eq_true_eq]
def lsM (A : AS) (o c f : Nat) : Nat := if f = 0 then 60 else lsA A o c f
theorem lsM_s {A : AS} {o c f : Nat} (h : aTr A (aLs A o c f) ≤ 16) : lsM A o c (f + 1) = if aTr A (aLs A o c f) - 1 < lsM A o c f then aTr A (aLs A o c f) - 1 else lsM A o c f := by
  unfold lsM
  rw [if_neg (Nat.succ_ne_zero f)]
  by_cases hf : f = 0
  · subst hf
    rw [if_pos rfl, if_pos (by omega)]
    show (if aTr A (aLs A o c 0) - 1 < 15 then aTr A (aLs A o c 0) - 1 else 15) = _
    by_cases hq : aTr A (aLs A o c 0) - 1 < 15
    · rw [if_pos hq]
    · rw [if_neg hq]; omega
  · rw [if_neg hf]
    rfl
theorem MC.bnd {N : Nat → Int32} {R : Nat → Nat → Int32} {A : AS} (h : MC N R A) {o c n : Nat} (hc3 : c < 3) :
    MC N (uR R 8 (upd (R 8) (3 * o + c) (nI n))) (uD A 4 o c 0 (n + 1)) := by
  obtain ⟨a1, a2, a3, a4, a5, a6, a7⟩ := h
  refine ⟨a1, a2, fun o' ho => ⟨(a3 o' ho).1, (a3 o' ho).2.1, fun c' hc => ?_⟩, a4, a5, a6, a7⟩
  show upd (R 8) (3 * o + c) (nI n) (3 * o' + c') = if (if o' = o ∧ c' = c ∧ (0 : Nat) = 0 then n + 1 else aBd A o' c') = 0 then -1 else nI ((if o' = o ∧ c' = c ∧ (0 : Nat) = 0 then n + 1 else aBd A o' c') - 1)
  by_cases hz : o' = o ∧ c' = c
  · obtain ⟨rfl, rfl⟩ := hz
    have e : (if o' = o' ∧ c' = c' ∧ (0 : Nat) = 0 then n + 1 else aBd A o' c') = n + 1 := if_pos ⟨rfl, rfl, rfl⟩
    rw [pk_us, e, if_neg (Nat.succ_ne_zero n)]
    rfl
  · have e : (if o' = o ∧ c' = c ∧ (0 : Nat) = 0 then n + 1 else aBd A o' c') = aBd A o' c' := if_neg (fun w => hz ⟨w.1, w.2.1⟩)
    rw [pk_un (fun w => hz (by omega)), e]
    exact (a3 o' ho).2.2 c' hc
theorem bndN_len {A : AS} (hF : VF A) {o c : Nat} (hv : VU A) (ho : o < aNo A) (hb : aBd A o c = 0) : ct (bndQ A o c) (aLen A (aOb A o)) = bndN A o c := by
  have h43 := hv.len (hv.2.2.2.2.2.1 o ho).1
  unfold bndN
  rw [ct_cut 43 h43 (fun f h1 h2 => Bool.eq_false_iff.mpr (fun z => ?_))]
  have := hF o ho c f h2 (bndQ_iff.mp z).1 hb
  omega
theorem MC.bsp {N : Nat → Int32} {R : Nat → Nat → Int32} {A : AS} (h : MC N R A) (hv : VU A) (hF : VF A) {o c : Nat} (ho : o < aNo A) (hc3 : c < 3) (hb : aBd A o c = 0) :
    MC (uN N 19 (nI (aSp A + bndN A o c))) (uR (uR2 R (mk1 (bQ A o c) (R 9) (LX o c (aLen A (aOb A o)))) (mk1 (bQ A o c) (R 11) (LX o c (aLen A (aOb A o))))) 8 (upd (R 8) (3 * o + c) (-1))) (uD (spoA A (bndS A o c)) 0 4 0 0 (aSp A + bndN A o c)) := by
  have h43 := hv.len (hv.2.2.2.2.2.1 o ho).1
  obtain ⟨⟨n0, n5, n14, n18, n19⟩, a2, a3, a4, a5, a6, a7⟩ := h
  refine ⟨⟨n0, n5, n14, n18, uN_s _ _ _⟩, a2, fun o' ho' => ⟨(a3 o' ho').1, (a3 o' ho').2.1, fun c' hc => ?_⟩, fun o' ho' c' hc f hf => ?_, a5, a6, a7⟩
  · show upd (R 8) (3 * o + c) (-1) (3 * o' + c') = if aBd A o' c' = 0 then -1 else nI (aBd A o' c' - 1)
    by_cases hz : o' = o ∧ c' = c
    · obtain ⟨rfl, rfl⟩ := hz
      rw [pk_us, if_pos hb]
    · rw [pk_un (fun w => hz (by omega))]
      exact (a3 o' ho').2.2 c' hc
  · have ho' : o' < aNo A := ho'
    obtain ⟨w1, w2, w3⟩ := a4 o' ho' c' hc f hf
    obtain ⟨x1, x2, x3⟩ := LX_o (o := o') hc hf
    show mk1 (bQ A o c) (R 9) (LX o c (aLen A (aOb A o))) (LX o' c' f) = (if (if bndS A o c o' c' f = true then 0 else aHl A o' c' f) = 1 then aPos A o' c' f else -1) ∧ mk1 (bQ A o c) (R 11) (LX o c (aLen A (aOb A o))) (LX o' c' f) = (if (if bndS A o c o' c' f = true then 0 else aHl A o' c' f) = 1 then trV (aTr A (aLs A o' c' f)) else -1) ∧ ((if bndS A o c o' c' f = true then 0 else aHl A o' c' f) = 1 → R 10 (LX o' c' f) = nI (aLs A o' c' f))
    have hiff : (LX o' c' f < LX o c (aLen A (aOb A o)) ∧ bQ A o c (LX o' c' f) = true) ↔ bndS A o c o' c' f = true := by
      rw [bndS_iff, bQ_iff, x1, x2, x3]
      constructor
      · rintro ⟨-, y1, y2, y3⟩
        exact ⟨y1, y2, hf, y3⟩
      · rintro ⟨rfl, rfl, -, y3⟩
        have := hF o' ho c' f hf (bndQ_iff.mp y3).1 hb
        exact ⟨by unfold LX; omega, rfl, rfl, y3⟩
    unfold mk1
    by_cases hq : bndS A o c o' c' f = true
    · rw [if_pos (hiff.mpr hq), if_pos (hiff.mpr hq), if_pos hq]
      exact ⟨rfl, rfl, fun z => absurd z (by decide)⟩
    · rw [if_neg (fun z => hq (hiff.mp z)), if_neg (fun z => hq (hiff.mp z)), if_neg hq]
      exact ⟨w1, w2, w3⟩
section MBind
variable {l : Launch} {G : GG} {S S0 S' : PS} {tg tg' : TG} {md : Nat} {V : Nat → Nat} {N : Nat → Int32} {R : Nat → Nat → Int32} {A : AS}
set_option maxRecDepth 100000 in
set_option maxHeartbeats 1000000 in
theorem m_isWhole (hl : l.stackTraces = false) (hM : MM S tg md V N R) (hv : VU A) (hMC : MC N R A) {o c : Nat} (ho : o < aNo A) (hc : c < 3) :
    MT l G S yX8_isWhole cX8_isWhole 5 (some .boolean) (rmA 2) [va_rf (some md), .int (nI o), .int (nI c)] (fun v S' => v = some (.int (bI (allA A o c (aLen A (aOb A o))))) ∧ S' = S) (fun _ => False) := by
  have h5 := hv.2.1
  have h43 := hv.len (hv.2.2.2.2.2.1 o ho).1
  refine MT_of (by decide +kernel) hl rfl (Nat.le_of_ble_eq_true rfl) (fun Z hC hzl hnm hT hQ => ?_)
  change J G Z S 0 0 0 [some (va_rf (some md)), some (.int (nI o)), some (.int (nI c)), none, none] []
  have hzs : (zl Z).stackTraces = false := by rw [hzl]; exact hl
  have loop : ∀ (d f : Nat), f + d = aLen A (aOb A o) → J G Z S 0 0 5 [some (va_rf (some md)), some (.int (nI o)), some (.int (nI c)), some (.int (bI (allA A o c f))), some (.int (nI f))] [] := by
    intro d
    induction d with
    | zero =>
      intro f hf
      have hf : f = aLen A (aOb A o) := by omega
      subst hf
      refine r_iload hC dX8_isWhole_5 rfl ?_
      refine r_aload_n hC dX8_isWhole_7 rfl rfl ?_
      refine r_iload_n hC dX8_isWhole_8 rfl rfl ?_
      refine r_cV (as := [.int (nI o)]) hC (m_size hzs hM hv hMC.2.1 hMC.2.2.1 ho) cs_X8_size q_1091 q_1093 q_63 (hM.kd) (by decide) rfl dX8_isWhole_9 rfl rfl ⟨Nat.le_of_ble_eq_true rfl, Nat.le_of_ble_eq_true rfl⟩ (Nat.le_of_ble_eq_true rfl) ⟨Nat.le_of_ble_eq_true rfl, Nat.le_of_ble_eq_true rfl⟩ (fun v9 S9 p9 => ?_) (fun _ x => x.elim)
      obtain ⟨rfl, e9⟩ := p9
      rw [e9]
      refine r_icge (tgt := 47) hC dX8_isWhole_12 (by decide) (fun h12 => ?_) (fun h12 => ?_)
      · refine r_iload_n hC dX8_isWhole_47 rfl rfl ?_
        refine r_zret hC hQ rfl (by cases allA A o c (aLen A (aOb A o)) <;> decide) dX8_isWhole_48 (Nat.le_of_ble_eq_true rfl) (Nat.le_of_ble_eq_true rfl) ?_
        exact ⟨rfl, rfl⟩
      · exact absurd (Int32.le_refl _) h12
    | succ d ih =>
      intro f hf
      have hfl : f < aLen A (aOb A o) := by omega
      have hf43 : f < 43 := by omega
      have hlx := LX_lt (o := o) (c := c) (f := f) (by omega) hc hf43
      obtain ⟨w1, w2, w3⟩ := hMC.2.2.2.1 o ho c hc f hf43
      have nx := ih (f + 1) (by omega)
      have ea : allA A o c (f + 1) = (allA A o c f && (decide (aHl A o c f = 1) && decide (aTr A (aLs A o c f) ≠ 0))) := rfl
      rw [ea] at nx
      refine r_iload hC dX8_isWhole_5 rfl ?_
      refine r_aload_n hC dX8_isWhole_7 rfl rfl ?_
      refine r_iload_n hC dX8_isWhole_8 rfl rfl ?_
      refine r_cV (as := [.int (nI o)]) hC (m_size hzs hM hv hMC.2.1 hMC.2.2.1 ho) cs_X8_size q_1091 q_1093 q_63 (hM.kd) (by decide) rfl dX8_isWhole_9 rfl rfl ⟨Nat.le_of_ble_eq_true rfl, Nat.le_of_ble_eq_true rfl⟩ (Nat.le_of_ble_eq_true rfl) ⟨Nat.le_of_ble_eq_true rfl, Nat.le_of_ble_eq_true rfl⟩ (fun v9 S9 p9 => ?_) (fun _ x => x.elim)
      obtain ⟨rfl, e9⟩ := p9
      rw [e9]
      refine r_icge (tgt := 47) hC dX8_isWhole_12 (by decide) (fun h12 => ?_) (fun h12 => ?_)
      · exact absurd ((nI_leI (by omega) (by omega)).mp h12) (by omega)
      · cases hb : allA A o c f with
        | false =>
          rw [hb, Bool.false_and] at nx
          refine r_iload_n hC dX8_isWhole_15 rfl rfl ?_
          refine r_ifeq (tgt := 39) hC dX8_isWhole_16 (by decide) (fun h16 => ?_) (fun h16 => ?_)
          · refine r_iconst (v := nI 0) hC dX8_isWhole_39 (by decide) ?_
            refine r_istore_n hC dX8_isWhole_40 rfl (by decide) ?_
            refine r_iinc hC dX8_isWhole_41 rfl (ii1 _) ?_
            refine r_goto (tgt := 5) hC dX8_isWhole_44 (by decide) ?_
            exact nx
          · exact absurd rfl h16
        | true =>
          rw [hb, Bool.true_and] at nx
          refine r_iload_n hC dX8_isWhole_15 rfl rfl ?_
          refine r_ifeq (tgt := 39) hC dX8_isWhole_16 (by decide) (fun h16 => ?_) (fun h16 => ?_)
          · exact absurd h16 (by decide)
          · refine r_aload_n hC dX8_isWhole_19 rfl rfl ?_
            refine r_getR  hC fl_X8_37 dX8_isWhole_20 (hM.kd) (hM.r 11 rfl) ?_
            refine r_iload_n hC dX8_isWhole_23 rfl rfl ?_
            refine r_iload_n hC dX8_isWhole_24 rfl rfl ?_
            refine r_iload hC dX8_isWhole_25 rfl ?_
            refine r_cS (as := [.int (nI o), .int (nI c), .int (nI f)]) hC (m_leafAt hzs o c f) cs_X8_leafAt q_1072 q_1073 dX8_isWhole_27 rfl rfl ⟨Nat.le_of_ble_eq_true rfl, Nat.le_of_ble_eq_true rfl⟩ (Nat.le_of_ble_eq_true rfl) ⟨Nat.le_of_ble_eq_true rfl, Nat.le_of_ble_eq_true rfl⟩ (fun v27 S27 p27 => ?_) (fun _ x => x.elim)
            obtain ⟨rfl, e27⟩ := p27
            rw [e27]
            have hvl := hv.2.2.2.2.2.2.2.2.2.2 o ho c f hf43
            refine r_iald hC dX8_isWhole_30 (hM.k 11 rfl) (rfl) (hM.lt 11 rfl (by show _ < 645; exact hlx)) (hM.b 11 rfl) ((congrFun (hM.a 11 rfl) _).trans (w2)) ?_
            refine r_iconst (v := (-1)) hC dX8_isWhole_31 (by decide) ?_
            refine r_iceq (tgt := 39) hC dX8_isWhole_32 (by decide) (fun h32 => ?_) (fun h32 => ?_)
            · have hz : ¬ (aHl A o c f = 1 ∧ aTr A (aLs A o c f) ≠ 0) := fun z => by
                rw [if_pos z.1] at h32
                exact (trV_ne (hv.2.2.2.2.2.2.2.2.1 _ (hvl.2 z.1).2.1).2.1).mpr z.2 h32
              have : (decide (aHl A o c f = 1) && decide (aTr A (aLs A o c f) ≠ 0)) = false := Bool.eq_false_iff.mpr (fun z => hz (by simpa using z))
              rw [this] at nx
              refine r_iconst (v := nI 0) hC dX8_isWhole_39 (by decide) ?_
              refine r_istore_n hC dX8_isWhole_40 rfl (by decide) ?_
              refine r_iinc hC dX8_isWhole_41 rfl (ii1 _) ?_
              refine r_goto (tgt := 5) hC dX8_isWhole_44 (by decide) ?_
              exact nx
            · have hh : aHl A o c f = 1 := Classical.byContradiction (fun z => h32 (if_neg z))
              rw [if_pos hh] at h32
              have ht := (trV_ne (hv.2.2.2.2.2.2.2.2.1 _ (hvl.2 hh).2.1).2.1).mp h32
              rw [decide_eq_true hh, decide_eq_true ht] at nx
              refine r_iconst (v := nI 1) hC dX8_isWhole_35 (by decide) ?_
              refine r_goto (tgt := 40) hC dX8_isWhole_36 (by decide) ?_
              refine r_istore_n hC dX8_isWhole_40 rfl (by decide) ?_
              refine r_iinc hC dX8_isWhole_41 rfl (ii1 _) ?_
              refine r_goto (tgt := 5) hC dX8_isWhole_44 (by decide) ?_
              exact nx
  refine r_iconst (v := nI 1) hC dX8_isWhole_0 (by decide) ?_
  refine r_istore_n hC dX8_isWhole_1 rfl (by decide) ?_
  refine r_iconst (v := nI 0) hC dX8_isWhole_2 (by decide) ?_
  refine r_istore hC dX8_isWhole_3 (by decide) ?_
  exact loop (aLen A (aOb A o)) 0 (by omega)
set_option maxRecDepth 100000 in
set_option maxHeartbeats 4000000 in
theorem m_bind (hl : l.stackTraces = false) (hM : MM S tg md V N R) (hv : VU A) (hF : VF A) (hMC : MC N R A) (x y : Int32) :
    MT l G S yX8_bind cX8_bind 7 (some .int) (rmA 3) [va_rf (some md), .int x, .int y] (EM S tg md V (oBind A x y)) (fun _ => False) := by
  have h5 := hv.2.1
  refine MT_of (by decide +kernel) hl rfl (Nat.le_of_ble_eq_true rfl) (fun Z hC hzl hnm hT hQ => ?_)
  change J G Z S 0 0 0 [some (va_rf (some md)), some (.int x), some (.int y), none, none, none, none] []
  have hzs : (zl Z).stackTraces = false := by rw [hzl]; exact hl
  refine r_aload_n hC dX8_bind_0 rfl rfl ?_
  refine r_aload_n hC dX8_bind_1 rfl rfl ?_
  refine r_iload_n hC dX8_bind_2 rfl rfl ?_
  refine r_iload_n hC dX8_bind_3 rfl rfl ?_
  refine r_cV (as := [.int x, .int y]) hC (m_isCopy hzs hM hv hMC x y) cs_X8_isCopy q_1159 q_1161 q_68 (hM.kd) (by decide) rfl dX8_bind_4 rfl rfl ⟨Nat.le_of_ble_eq_true rfl, Nat.le_of_ble_eq_true rfl⟩ (Nat.le_of_ble_eq_true rfl) ⟨Nat.le_of_ble_eq_true rfl, Nat.le_of_ble_eq_true rfl⟩ (fun v4 S4 p4 => ?_) (fun _ x => x.elim)
  obtain ⟨rfl, e4⟩ := p4
  rw [e4]
  cases hb : (ixb x (aNo A) && ixb y (aNc A (ii x))) with
  | false =>
    refine r_ifeq (tgt := 14) hC dX8_bind_7 (by decide) (fun h7 => ?_) (fun h7 => ?_)
    · refine r_iconst (v := nI 1) hC dX8_bind_14 (by decide) ?_
      refine r_cV (as := [.int (nI 1)]) hC (m_goes hzs hM (nI 1)) cs_X8_goes q_1010 q_1012 q_52 (hM.kd) (by decide) rfl dX8_bind_15 rfl rfl ⟨Nat.le_of_ble_eq_true rfl, Nat.le_of_ble_eq_true rfl⟩ (Nat.le_of_ble_eq_true rfl) ⟨Nat.le_of_ble_eq_true rfl, Nat.le_of_ble_eq_true rfl⟩ (fun v15 S15 p15 => ?_) (fun _ x => x.elim)
      obtain ⟨rfl, h1⟩ := p15
      refine r_ifeq (tgt := 51) hC dX8_bind_18 (by decide) (fun h18 => ?_) (fun h18 => ?_)
      · refine r_iconst (v := nI 0) hC dX8_bind_51 (by decide) ?_
        refine r_iret hC hQ rfl dX8_bind_52 (Nat.le_of_ble_eq_true rfl) (Nat.le_of_ble_eq_true rfl) ?_
        exact EM.thr h1 hMC ⟨1, by unfold oBind; rw [if_neg (fun z => by rw [z.1, z.2] at hb; exact absurd hb (by decide))], by decide, rfl⟩ ⟨_, rfl⟩
      · exact absurd (by decide) h18
    · exact absurd rfl h7
  | true =>
    rw [Bool.and_eq_true] at hb
    obtain ⟨o, ho, rfl, hoo⟩ := ixb_of (by omega) hb.1
    have h3 := (hv.2.2.2.2.2.1 o ho).2.2
    have hob := (hv.2.2.2.2.2.1 o ho).1
    have h43 := hv.len hob
    rw [hoo] at hb
    obtain ⟨c, hc, rfl, hcc⟩ := ixb_of (by omega) hb.2
    have hc3 : c < 3 := by omega
    obtain ⟨len, elen⟩ : ∃ len, len = aLen A (aOb A o) := ⟨_, rfl⟩
    have eB : oBind A (nI o) (nI c) = if aBd A o c ≠ 0 ∨ allA A o c len = false then (2, 0, A) else if bndN A o c = 0 then (0, nI len, uD A 4 o c 0 (len + 1)) else (0, -nI (bndN A o c), uD (spoA A (bndS A o c)) 0 4 0 0 (aSp A + bndN A o c)) := by
      unfold oBind
      rw [hoo, hcc, if_pos hb, ← elen]
    refine r_ifeq (tgt := 14) hC dX8_bind_7 (by decide) (fun h7 => ?_) (fun h7 => ?_)
    · exact absurd h7 (by decide)
    · refine r_iconst (v := nI 0) hC dX8_bind_10 (by decide) ?_
      refine r_goto (tgt := 15) hC dX8_bind_11 (by decide) ?_
      refine r_cV (as := [.int (nI 0)]) hC (m_goes hzs hM (nI 0)) cs_X8_goes q_1010 q_1012 q_52 (hM.kd) (by decide) rfl dX8_bind_15 rfl rfl ⟨Nat.le_of_ble_eq_true rfl, Nat.le_of_ble_eq_true rfl⟩ (Nat.le_of_ble_eq_true rfl) ⟨Nat.le_of_ble_eq_true rfl, Nat.le_of_ble_eq_true rfl⟩ (fun v15 S15 p15 => ?_) (fun _ x => x.elim)
      obtain ⟨rfl, h1⟩ := p15
      have hM1 := h1.1
      have thr : (aBd A o c ≠ 0 ∨ allA A o c len = false) → J G Z S15 0 0 40 [some (va_rf (some md)), some (.int (nI o)), some (.int (nI c)), none, none, none, none] [va_rf (some md)] := by
        intro hz
        refine r_iconst (v := nI 2) hC dX8_bind_40 (by decide) ?_
        refine r_goto (tgt := 45) hC dX8_bind_41 (by decide) ?_
        refine r_cV (as := [.int (nI 2)]) hC (m_goes hzs hM1 (nI 2)) cs_X8_goes q_1010 q_1012 q_52 (hM1.kd) (by decide) rfl dX8_bind_45 rfl rfl ⟨Nat.le_of_ble_eq_true rfl, Nat.le_of_ble_eq_true rfl⟩ (Nat.le_of_ble_eq_true rfl) ⟨Nat.le_of_ble_eq_true rfl, Nat.le_of_ble_eq_true rfl⟩ (fun v45 S45 p45 => ?_) (fun _ x => x.elim)
        obtain ⟨rfl, h2⟩ := p45
        refine r_ifne (tgt := 53) hC dX8_bind_48 (by decide) (fun h48 => ?_) (fun h48 => ?_)
        · exact absurd (by decide) h48
        · refine r_iconst (v := nI 0) hC dX8_bind_51 (by decide) ?_
          refine r_iret hC hQ rfl dX8_bind_52 (Nat.le_of_ble_eq_true rfl) (Nat.le_of_ble_eq_true rfl) ?_
          exact EM.thr (A := A) (h1.tr h2) hMC ⟨2, by rw [eB, if_pos hz], by decide, rfl⟩ ⟨_, rfl⟩
      refine r_ifeq (tgt := 51) hC dX8_bind_18 (by decide) (fun h18 => ?_) (fun h18 => ?_)
      · exact absurd h18 (by decide)
      · refine r_aload_n hC dX8_bind_21 rfl rfl ?_
        refine r_aload_n hC dX8_bind_22 rfl rfl ?_
        refine r_iload_n hC dX8_bind_23 rfl rfl ?_
        refine r_iload_n hC dX8_bind_24 rfl rfl ?_
        refine r_cV (as := [.int (nI o), .int (nI c)]) hC (m_isBoundCopy hzs hM1 (o := o) (c := c) (by omega) hc3) cs_X8_isBoundCopy q_1033 q_1035 q_56 (hM1.kd) (by decide) rfl dX8_bind_25 rfl rfl ⟨Nat.le_of_ble_eq_true rfl, Nat.le_of_ble_eq_true rfl⟩ (Nat.le_of_ble_eq_true rfl) ⟨Nat.le_of_ble_eq_true rfl, Nat.le_of_ble_eq_true rfl⟩ (fun v25 S25 p25 => ?_) (fun _ x => x.elim)
        obtain ⟨rfl, e25⟩ := p25
        rw [e25, bd_ne hv hMC.2.2.1 ho hc3]
        refine r_ifne (tgt := 40) hC dX8_bind_28 (by decide) (fun h28 => ?_) (fun h28 => ?_)
        · have hz : aBd A o c ≠ 0 := fun z => h28 (by rw [decide_eq_false (fun w => w z)]; rfl)
          exact thr (Or.inl hz)
        · have hbd : aBd A o c = 0 := Classical.byContradiction (fun z => by
            rw [decide_eq_true z] at h28
            exact absurd h28 (by decide))
          refine r_aload_n hC dX8_bind_31 rfl rfl ?_
          refine r_iload_n hC dX8_bind_32 rfl rfl ?_
          refine r_iload_n hC dX8_bind_33 rfl rfl ?_
          refine r_cV (as := [.int (nI o), .int (nI c)]) hC (m_isWhole hzs hM1 hv (hMC.n23 _) ho hc3) cs_X8_isWhole q_1163 q_1165 q_69 (hM1.kd) (by decide) rfl dX8_bind_34 rfl rfl ⟨Nat.le_of_ble_eq_true rfl, Nat.le_of_ble_eq_true rfl⟩ (Nat.le_of_ble_eq_true rfl) ⟨Nat.le_of_ble_eq_true rfl, Nat.le_of_ble_eq_true rfl⟩ (fun v34 S34 p34 => ?_) (fun _ x => x.elim)
          obtain ⟨rfl, e34⟩ := p34
          rw [e34, ← elen]
          cases hal : allA A o c len with
          | false =>
            refine r_ifne (tgt := 44) hC dX8_bind_37 (by decide) (fun h37 => ?_) (fun h37 => ?_)
            · exact absurd rfl h37
            · exact thr (Or.inr hal)
          | true =>
            refine r_ifne (tgt := 44) hC dX8_bind_37 (by decide) (fun h37 => ?_) (fun h37 => ?_)
            rotate_left
            · exact absurd h37 (by decide)
            · refine r_iconst (v := nI 0) hC dX8_bind_44 (by decide) ?_
              refine r_cV (as := [.int (nI 0)]) hC (m_goes hzs hM1 (nI 0)) cs_X8_goes q_1010 q_1012 q_52 (hM1.kd) (by decide) rfl dX8_bind_45 rfl rfl ⟨Nat.le_of_ble_eq_true rfl, Nat.le_of_ble_eq_true rfl⟩ (Nat.le_of_ble_eq_true rfl) ⟨Nat.le_of_ble_eq_true rfl, Nat.le_of_ble_eq_true rfl⟩ (fun v45 S45 p45 => ?_) (fun _ x => x.elim)
              obtain ⟨rfl, h2⟩ := p45
              have h3 := h1.tr h2
              rw [uN_uN] at h3
              have hM2 := h3.1
              have hall : ∀ f, f < len → aHl A o c f = 1 ∧ aTr A (aLs A o c f) ≠ 0 := by
                intro f hf
                have := (allB_iff _ _).mp hal f hf
                simpa using this
              have hbn := bndN_len hF hv ho hbd
              rw [← elen] at hbn h43
              rw [if_neg (fun z => z.elim (fun w => w hbd) (fun w => by rw [hal] at w; exact absurd w (by decide)))] at eB
              have nt := hv.2.2.2.1
              have val : ∀ f, f < len → ∃ t, aTr A (aLs A o c f) = t + 1 ∧ t ≤ 15 ∧ aHl A o c f = 1 ∧ R 11 (LX o c f) = nI t := by
                intro f hf
                obtain ⟨z1, z2⟩ := hall f hf
                have htr := (hv.2.2.2.2.2.2.2.2.1 _ ((hv.2.2.2.2.2.2.2.2.2.2 o ho c f (by omega)).2 z1).2.1).2.1
                refine ⟨aTr A (aLs A o c f) - 1, by omega, by omega, z1, ?_⟩
                rw [(hMC.2.2.2.1 o ho c hc3 f (by omega)).2.1, if_pos z1]
                unfold trV
                rw [if_neg z2]
              -- the end
              have fin : ∀ (S1 : PS) (o4 o6 : Option Value), MX S S1 tg md V (uN (uN N 23 (nI 0)) 19 (nI (aSp A + bndN A o c))) (uR2 R (mk1 (bQ A o c) (R 9) (LX o c len)) (mk1 (bQ A o c) (R 11) (LX o c len))) →
                  J G Z S1 0 0 162 [some (va_rf (some md)), some (.int (nI o)), some (.int (nI c)), some (.int (nI len)), o4, some (.int (nI (bndN A o c))), o6] [] := by
                intro S1 o4 o6 h4
                have h43n : bndN A o c ≤ 43 := ct_le _ _
                by_cases hz : bndN A o c = 0
                · have hno : ∀ m, m < LX o c len → bQ A o c m = false := by
                    intro m hm
                    refine Bool.eq_false_iff.mpr (fun z => ?_)
                    obtain ⟨z1, z2, z3⟩ := bQ_iff.mp z
                    have := ct_p _ hz (m % 43) (by omega)
                    rw [z3] at this
                    exact absurd this (by decide)
                  rw [mk1_no hno, mk1_no hno, uR2_id, hz, Nat.add_zero] at h4
                  rw [hz]
                  rw [if_pos hz] at eB
                  refine r_aload_n hC dX8_bind_162 rfl rfl ?_
                  refine r_getR  hC fl_X8_28 dX8_bind_163 (h4.1.kd) (h4.1.r 8 rfl) ?_
                  refine r_iconst (v := nI 3) hC dX8_bind_166 (by decide) ?_
                  refine r_iload_n hC dX8_bind_167 rfl rfl ?_
                  refine r_imul hC dX8_bind_168 ?_
                  rw [pk_mul]
                  refine r_iload_n hC dX8_bind_169 rfl rfl ?_
                  refine r_iadd hC dX8_bind_170 ?_
                  rw [nI_add]
                  refine r_iload hC dX8_bind_171 rfl ?_
                  refine r_ifle (tgt := 180) hC dX8_bind_173 (by decide) (fun h173 => ?_) (fun h173 => ?_)
                  · refine r_iload_n hC dX8_bind_180 rfl rfl ?_
                    refine r_iast hC dX8_bind_181 (h4.1.k 8 rfl) (rfl) (h4.1.lt 8 rfl (by show _ < 15; omega)) (h4.1.b 8 rfl) ?_
                    have h5' := h4.su 8 rfl (3 * o + c) (nI len)
                    refine r_iload hC dX8_bind_182 rfl ?_
                    refine r_ifle (tgt := 193) hC dX8_bind_184 (by decide) (fun h184 => ?_) (fun h184 => ?_)
                    · refine r_iload_n hC dX8_bind_193 rfl rfl ?_
                      refine r_iret hC hQ rfl dX8_bind_194 (Nat.le_of_ble_eq_true rfl) (Nat.le_of_ble_eq_true rfl) ?_
                      rw [eB]
                      have hm : MC (uN (uN N 23 (nI 0)) 19 (nI (aSp A))) R A := by
                        rw [uN_id (show (uN N 23 (nI 0)) 19 = nI (aSp A) from hMC.1.2.2.2.2)]
                        exact hMC
                      exact EM.ok h5' (hm.bnd hc3) rfl rfl rfl
                    · exact absurd (by decide) h184
                  · exact absurd (by decide) h173
                · rw [if_neg hz] at eB
                  have hpos := nI_ltI (a := 0) (b := bndN A o c) (by decide) (by omega)
                  refine r_aload_n hC dX8_bind_162 rfl rfl ?_
                  refine r_getR  hC fl_X8_28 dX8_bind_163 (h4.1.kd) (h4.1.r 8 rfl) ?_
                  refine r_iconst (v := nI 3) hC dX8_bind_166 (by decide) ?_
                  refine r_iload_n hC dX8_bind_167 rfl rfl ?_
                  refine r_imul hC dX8_bind_168 ?_
                  rw [pk_mul]
                  refine r_iload_n hC dX8_bind_169 rfl rfl ?_
                  refine r_iadd hC dX8_bind_170 ?_
                  rw [nI_add]
                  refine r_iload hC dX8_bind_171 rfl ?_
                  refine r_ifle (tgt := 180) hC dX8_bind_173 (by decide) (fun h173 => ?_) (fun h173 => ?_)
                  · exact absurd h173 (Int32.not_le.mpr (hpos.mpr (by omega)))
                  · refine r_iconst (v := (-1)) hC dX8_bind_176 (by decide) ?_
                    refine r_goto (tgt := 181) hC dX8_bind_177 (by decide) ?_
                    refine r_iast hC dX8_bind_181 (h4.1.k 8 rfl) (rfl) (h4.1.lt 8 rfl (by show _ < 15; omega)) (h4.1.b 8 rfl) ?_
                    have h5' := h4.su 8 rfl (3 * o + c) (-1)
                    refine r_iload hC dX8_bind_182 rfl ?_
                    refine r_ifle (tgt := 193) hC dX8_bind_184 (by decide) (fun h184 => ?_) (fun h184 => ?_)
                    · exact absurd h184 (Int32.not_le.mpr (hpos.mpr (by omega)))
                    · refine r_iload hC dX8_bind_187 rfl ?_
                      refine r_ineg hC dX8_bind_189 ?_
                      refine r_goto (tgt := 194) hC dX8_bind_190 (by decide) ?_
                      refine r_iret hC hQ rfl dX8_bind_194 (Nat.le_of_ble_eq_true rfl) (Nat.le_of_ble_eq_true rfl) ?_
                      rw [eB]
                      have hm := (hMC.n23 (nI 0)).bsp hv hF ho hc3 hbd
                      rw [← elen] at hm
                      exact EM.ok h5' hm rfl rfl rfl
              -- the leaves whose trim is above
              have loop2 : ∀ (d f : Nat) (S1 : PS), f + d = len → MX S S1 tg md V (uN (uN N 23 (nI 0)) 19 (nI (aSp A + ct (bndQ A o c) f))) (uR2 R (mk1 (bQ A o c) (R 9) (LX o c f)) (mk1 (bQ A o c) (R 11) (LX o c f))) →
                  J G Z S1 0 0 114 [some (va_rf (some md)), some (.int (nI o)), some (.int (nI c)), some (.int (nI len)), some (.int (nI (lsM A o c len))), some (.int (nI (ct (bndQ A o c) f))), some (.int (nI f))] [] := by
                intro d
                induction d with
                | zero =>
                  intro f S1 hf h4
                  have hf : f = len := by omega
                  subst hf
                  rw [hbn] at h4 ⊢
                  refine r_iload hC dX8_bind_114 rfl ?_
                  refine r_iload_n hC dX8_bind_116 rfl rfl ?_
                  refine r_icge (tgt := 162) hC dX8_bind_117 (by decide) (fun h117 => ?_) (fun h117 => ?_)
                  · exact fin S1 _ _ h4
                  · exact absurd (Int32.le_refl _) h117
                | succ d ih =>
                  intro f S1 hf h4
                  have hfl : f < len := by omega
                  have hf43 : f < 43 := by omega
                  have hlx := LX_lt (o := o) (c := c) (f := f) (by omega) hc3 hf43
                  obtain ⟨t, t1, t2, t3, t4⟩ := val f hfl
                  have hls : lsM A o c len = lsA A o c len := if_neg (by omega)
                  have hl15 := lsA_le A o c len
                  have hct := ct_le (bndQ A o c) f
                  have hbq : bndQ A o c f = true ↔ lsA A o c len + aTol A < t := by
                    rw [bndQ_iff, t1, ← elen]
                    exact ⟨fun z => by omega, fun z => ⟨t3, by omega⟩⟩
                  have hlx1 : LX o c (f + 1) = LX o c f + 1 := rfl
                  have nx := ih (f + 1)
                  refine r_iload hC dX8_bind_114 rfl ?_
                  refine r_iload_n hC dX8_bind_116 rfl rfl ?_
                  refine r_icge (tgt := 162) hC dX8_bind_117 (by decide) (fun h117 => ?_) (fun h117 => ?_)
                  · exact absurd ((nI_leI (by omega) (by omega)).mp h117) (by omega)
                  · refine r_aload_n hC dX8_bind_120 rfl rfl ?_
                    refine r_getR  hC fl_X8_37 dX8_bind_121 (h4.1.kd) (h4.1.r 11 rfl) ?_
                    refine r_iload_n hC dX8_bind_124 rfl rfl ?_
                    refine r_iload_n hC dX8_bind_125 rfl rfl ?_
                    refine r_iload hC dX8_bind_126 rfl ?_
                    refine r_cS (as := [.int (nI o), .int (nI c), .int (nI f)]) hC (m_leafAt hzs o c f) cs_X8_leafAt q_1072 q_1073 dX8_bind_128 rfl rfl ⟨Nat.le_of_ble_eq_true rfl, Nat.le_of_ble_eq_true rfl⟩ (Nat.le_of_ble_eq_true rfl) ⟨Nat.le_of_ble_eq_true rfl, Nat.le_of_ble_eq_true rfl⟩ (fun v128 S128 p128 => ?_) (fun _ x => x.elim)
                    obtain ⟨rfl, e128⟩ := p128
                    rw [e128]
                    refine r_iald hC dX8_bind_131 (h4.1.k 11 rfl) (rfl) (h4.1.lt 11 rfl (by show _ < 645; exact hlx)) (h4.1.b 11 rfl) ((congrFun (h4.1.a 11 rfl) _).trans (mk1_n.trans t4)) ?_
                    refine r_iload hC dX8_bind_132 rfl ?_
                    refine r_aload_n hC dX8_bind_134 rfl rfl ?_
                    refine r_getI hC fl_X8_56 rfl dX8_bind_135 (h4.1.kd) ((h4.1.n 18 rfl).trans hMC.1.2.2.2.1) ?_
                    refine r_iadd hC dX8_bind_138 ?_
                    rw [hls, nI_add]
                    refine r_icle (tgt := 156) hC dX8_bind_139 (by decide) (fun h139 => ?_) (fun h139 => ?_)
                    · have hle := (nI_leI (by omega) (by omega)).mp h139
                      have hq : bndQ A o c f = false := Bool.eq_false_iff.mpr (fun z => by have := hbq.mp z; omega)
                      refine r_iinc hC dX8_bind_156 rfl (ii1 _) ?_
                      refine r_goto (tgt := 114) hC dX8_bind_159 (by decide) ?_
                      have := nx S1 (by omega)
                      rw [hlx1, mk1_f (by rw [bQ_lx hc3 hf43]; exact hq), mk1_f (by rw [bQ_lx hc3 hf43]; exact hq), ct_s0 hq, hls] at this
                      exact this h4
                    · have hgt : lsA A o c len + aTol A < t := Nat.lt_of_not_le (fun z => h139 (nI_le z (by omega)))
                      have hq := hbq.mpr hgt
                      refine r_aload_n hC dX8_bind_142 rfl rfl ?_
                      refine r_iload_n hC dX8_bind_143 rfl rfl ?_
                      refine r_iload_n hC dX8_bind_144 rfl rfl ?_
                      refine r_iload hC dX8_bind_145 rfl ?_
                      refine r_cS (as := [.int (nI o), .int (nI c), .int (nI f)]) hC (m_leafAt hzs o c f) cs_X8_leafAt q_1072 q_1073 dX8_bind_147 rfl rfl ⟨Nat.le_of_ble_eq_true rfl, Nat.le_of_ble_eq_true rfl⟩ (Nat.le_of_ble_eq_true rfl) ⟨Nat.le_of_ble_eq_true rfl, Nat.le_of_ble_eq_true rfl⟩ (fun v147 S147 p147 => ?_) (fun _ x => x.elim)
                      obtain ⟨rfl, e147⟩ := p147
                      rw [e147]
                      refine r_cV (as := [.int (nI (LX o c f))]) hC (m_spoils hzs h4.1 hlx) cs_X8_spoils q_1044 q_1046 q_58 (h4.1.kd) (by decide) rfl dX8_bind_150 rfl rfl ⟨Nat.le_of_ble_eq_true rfl, Nat.le_of_ble_eq_true rfl⟩ (Nat.le_of_ble_eq_true rfl) ⟨Nat.le_of_ble_eq_true rfl, Nat.le_of_ble_eq_true rfl⟩ (fun v150 S150 p150 => ?_) (fun _ x => x.elim)
                      obtain ⟨rfl, h6⟩ := p150
                      refine r_iinc hC dX8_bind_153 rfl (ii1 _) ?_
                      refine r_iinc hC dX8_bind_156 rfl (ii1 _) ?_
                      refine r_goto (tgt := 114) hC dX8_bind_159 (by decide) ?_
                      have h7 := h4.tr h6
                      rw [uN_uN, uN_s, nI_add, uR2_2] at h7
                      have := nx S150 (by omega)
                      rw [hlx1, ← mk1_t (by rw [bQ_lx hc3 hf43]; exact hq), ← mk1_t (by rw [bQ_lx hc3 hf43]; exact hq), ct_s1 hq, hls] at this
                      exact this h7
              -- the least trim
              have loop1 : ∀ (d f : Nat) (o6 : Option Value), f + d = len → J G Z S45 0 0 66 [some (va_rf (some md)), some (.int (nI o)), some (.int (nI c)), some (.int (nI len)), some (.int (nI (lsM A o c f))), some (.int (nI f)), o6] [] := by
                intro d
                induction d with
                | zero =>
                  intro f o6 hf
                  have hf : f = len := by omega
                  subst hf
                  refine r_iload hC dX8_bind_66 rfl ?_
                  refine r_iload_n hC dX8_bind_68 rfl rfl ?_
                  refine r_icge (tgt := 108) hC dX8_bind_69 (by decide) (fun h69 => ?_) (fun h69 => ?_)
                  · refine r_iconst (v := nI 0) hC dX8_bind_108 (by decide) ?_
                    refine r_istore hC dX8_bind_109 (by decide) ?_
                    refine r_iconst (v := nI 0) hC dX8_bind_111 (by decide) ?_
                    refine r_istore hC dX8_bind_112 (by decide) ?_
                    refine loop2 f 0 S45 (by omega) ?_
                    rw [mk1_no (bQ_lo hc3), mk1_no (bQ_lo hc3), uR2_id]
                    show MX S S45 tg md V (uN (uN N 23 (nI 0)) 19 (nI (aSp A + 0))) R
                    rw [Nat.add_zero, uN_id (show (uN N 23 (nI 0)) 19 = nI (aSp A) from hMC.1.2.2.2.2)]
                    exact h3
                  · exact absurd (Int32.le_refl _) h69
                | succ d ih =>
                  intro f o6 hf
                  have hfl : f < len := by omega
                  have hf43 : f < 43 := by omega
                  have hlx := LX_lt (o := o) (c := c) (f := f) (by omega) hc3 hf43
                  obtain ⟨t, t1, t2, t3, t4⟩ := val f hfl
                  have h60 : lsM A o c f ≤ 60 := by
                    unfold lsM
                    have := lsA_le A o c f
                    split <;> omega
                  have es := lsM_s (A := A) (o := o) (c := c) (f := f) (by omega)
                  rw [t1, Nat.add_sub_cancel] at es
                  have nx := ih (f + 1) (some (.int (nI t))) (by omega)
                  rw [es] at nx
                  refine r_iload hC dX8_bind_66 rfl ?_
                  refine r_iload_n hC dX8_bind_68 rfl rfl ?_
                  refine r_icge (tgt := 108) hC dX8_bind_69 (by decide) (fun h69 => ?_) (fun h69 => ?_)
                  · exact absurd ((nI_leI (by omega) (by omega)).mp h69) (by omega)
                  · refine r_aload_n hC dX8_bind_72 rfl rfl ?_
                    refine r_getR  hC fl_X8_37 dX8_bind_73 (hM2.kd) (hM2.r 11 rfl) ?_
                    refine r_iload_n hC dX8_bind_76 rfl rfl ?_
                    refine r_iload_n hC dX8_bind_77 rfl rfl ?_
                    refine r_iload hC dX8_bind_78 rfl ?_
                    refine r_cS (as := [.int (nI o), .int (nI c), .int (nI f)]) hC (m_leafAt hzs o c f) cs_X8_leafAt q_1072 q_1073 dX8_bind_80 rfl rfl ⟨Nat.le_of_ble_eq_true rfl, Nat.le_of_ble_eq_true rfl⟩ (Nat.le_of_ble_eq_true rfl) ⟨Nat.le_of_ble_eq_true rfl, Nat.le_of_ble_eq_true rfl⟩ (fun v80 S80 p80 => ?_) (fun _ x => x.elim)
                    obtain ⟨rfl, e80⟩ := p80
                    rw [e80]
                    refine r_iald hC dX8_bind_83 (hM2.k 11 rfl) (rfl) (hM2.lt 11 rfl (by show _ < 645; exact hlx)) (hM2.b 11 rfl) ((congrFun (hM2.a 11 rfl) _).trans (t4)) ?_
                    refine r_istore hC dX8_bind_84 (by decide) ?_
                    refine r_iload hC dX8_bind_86 rfl ?_
                    refine r_iload hC dX8_bind_88 rfl ?_
                    refine r_icge (tgt := 98) hC dX8_bind_90 (by decide) (fun h90 => ?_) (fun h90 => ?_)
                    · have hge := (nI_leI (by omega) (by omega)).mp h90
                      rw [if_neg (by omega)] at nx
                      refine r_iload hC dX8_bind_98 rfl ?_
                      refine r_istore hC dX8_bind_100 (by decide) ?_
                      refine r_iinc hC dX8_bind_102 rfl (ii1 _) ?_
                      refine r_goto (tgt := 66) hC dX8_bind_105 (by decide) ?_
                      exact nx
                    · have hlt : t < lsM A o c f := Nat.lt_of_not_le (fun z => h90 (nI_le z (by omega)))
                      rw [if_pos hlt] at nx
                      refine r_iload hC dX8_bind_93 rfl ?_
                      refine r_goto (tgt := 100) hC dX8_bind_95 (by decide) ?_
                      refine r_istore hC dX8_bind_100 (by decide) ?_
                      refine r_iinc hC dX8_bind_102 rfl (ii1 _) ?_
                      refine r_goto (tgt := 66) hC dX8_bind_105 (by decide) ?_
                      exact nx
              refine r_ifne (tgt := 53) hC dX8_bind_48 (by decide) (fun h48 => ?_) (fun h48 => ?_)
              rotate_left
              · exact absurd h48 (by decide)
              · refine r_aload_n hC dX8_bind_53 rfl rfl ?_
                refine r_iload_n hC dX8_bind_54 rfl rfl ?_
                refine r_cV (as := [.int (nI o)]) hC (m_size hzs hM2 hv hMC.2.1 hMC.2.2.1 ho) cs_X8_size q_1091 q_1093 q_63 (hM2.kd) (by decide) rfl dX8_bind_55 rfl rfl ⟨Nat.le_of_ble_eq_true rfl, Nat.le_of_ble_eq_true rfl⟩ (Nat.le_of_ble_eq_true rfl) ⟨Nat.le_of_ble_eq_true rfl, Nat.le_of_ble_eq_true rfl⟩ (fun v55 S55 p55 => ?_) (fun _ x => x.elim)
                obtain ⟨rfl, e55⟩ := p55
                rw [e55, ← elen]
                refine r_istore_n hC dX8_bind_58 rfl (by decide) ?_
                refine r_bipush (v := nI 60) hC dX8_bind_59 (by decide) ?_
                refine r_istore hC dX8_bind_61 (by decide) ?_
                refine r_iconst (v := nI 0) hC dX8_bind_63 (by decide) ?_
                refine r_istore hC dX8_bind_64 (by decide) ?_
                exact loop1 len 0 none (by omega)
end MBind

