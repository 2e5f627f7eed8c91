/-! ===== the model cuts and discards ===== -/
theorem iim2 (x : Int32) : x + Int32.ofInt (-1) = x - nI 1 := by rw [Int32.sub_eq_add_neg]; rfl
def fwV (A : AS) (j : Nat) : Int32 := if fw A (aNs A - j) j = aNs A then -1 else nI (fw A (aNs A - j) j)
theorem fwV_n (A : AS) : fwV A (aNs A) = -1 := by
  unfold fwV
  rw [Nat.sub_self]
  exact if_pos rfl
theorem fwV_s {A : AS} {i : Nat} (h : i < aNs A) : fwV A i = if aWt A i = 1 then nI i else fwV A (i + 1) := by
  have e0 : fw A (aNs A - i) i = if aWt A i = 1 then i else fw A (aNs A - (i + 1)) (i + 1) := by
    rw [show aNs A - i = (aNs A - (i + 1)) + 1 by omega]
    rfl
  unfold fwV
  by_cases hz : aWt A i = 1
  · rw [if_pos hz] at e0
    rw [if_pos hz, e0, if_neg (by omega)]
  · rw [if_neg hz] at e0
    rw [if_neg hz, e0]
/-- whether the leaf n, of use, lies on the sheet j, which is not cut -/
def onQ (A : AS) (n j : Nat) : Bool := decide (n / 43 / 3 < aNo A) && decide (aHl A (n / 43 / 3) (n / 43 % 3) (n % 43) = 1) && decide (aTr A (aLs A (n / 43 / 3) (n / 43 % 3) (n % 43)) = 0) && decide (aLs A (n / 43 / 3) (n / 43 % 3) (n % 43) = j)
theorem onQ_iff {A : AS} {n j : Nat} : onQ A n j = true ↔ n / 43 / 3 < aNo A ∧ aHl A (n / 43 / 3) (n / 43 % 3) (n % 43) = 1 ∧ aTr A (aLs A (n / 43 / 3) (n / 43 % 3) (n % 43)) = 0 ∧ aLs A (n / 43 / 3) (n / 43 % 3) (n % 43) = j := by
  unfold onQ
  simp only [Bool.and_eq_true, decide_eq_true_eq, and_assoc]
def atL (r9 r10 r11 : Nat → Int32) (A : AS) (n : Nat) : Prop := n / 43 / 3 < aNo A → r9 n = (if aHl A (n / 43 / 3) (n / 43 % 3) (n % 43) = 1 then aPos A (n / 43 / 3) (n / 43 % 3) (n % 43) else -1) ∧
  r11 n = (if aHl A (n / 43 / 3) (n / 43 % 3) (n % 43) = 1 then trV (aTr A (aLs A (n / 43 / 3) (n / 43 % 3) (n % 43))) else -1) ∧ (aHl A (n / 43 / 3) (n / 43 % 3) (n % 43) = 1 → r10 n = nI (aLs A (n / 43 / 3) (n / 43 % 3) (n % 43)))
theorem mLv.at_ {r9 r10 r11 : Nat → Int32} {A : AS} (h : mLv r9 r10 r11 A) (n : Nat) : atL r9 r10 r11 A n := by
  intro ho
  have := h (n / 43 / 3) ho (n / 43 % 3) (by omega) (n % 43) (by omega)
  rw [LX_n] at this
  exact this
theorem useN_eq {A : AS} (hv : VU A) {j : Nat} (ht : aTr A j = 0) : anQ (fun n => onQ A n j) 645 = useQ A j := by
  have h5 := hv.2.1
  rw [Bool.eq_iff_iff, anQ_iff, useQ_iff]
  constructor
  · rintro ⟨n, hn, hq⟩
    obtain ⟨h1, h2, h3, h4⟩ := onQ_iff.mp hq
    have := ((hv.2.2.2.2.2.2.2.2.2.2 _ h1 (n / 43 % 3) (n % 43) (by omega)).2 h2).1
    exact ⟨_, _, _, h1, this, by omega, h2, h4⟩
  · rintro ⟨o, c, f, ho, hc, hf, hh, hs⟩
    have h3 := (hv.2.2.2.2.2.1 o ho).2.2
    obtain ⟨x1, x2, x3⟩ := LX_o (o := o) (c := c) (f := f) (by omega) hf
    refine ⟨LX o c f, LX_lt (by omega) (by omega) hf, onQ_iff.mpr ?_⟩
    rw [x1, x2, x3]
    exact ⟨ho, hh, by rw [hs]; exact ht, hs⟩
section MCut
variable {l : Launch} {G : GG} {S S0 S' : PS} {tg tg' : TG} {md : Nat} {V : Nat → Nat} {N : Nat → Int32} {R : Nat → Nat → Int32} {A : AS}
set_option maxRecDepth 100000 in
theorem m_longest (hl : l.stackTraces = false) (hM : MM S tg md V N R) (hv : VU A) (hN : N 14 = nI (aNs A)) (hW : ∀ j, j < aNs A → R 16 j = nI (aWt A j)) :
    MT l G S yX8_longest cX8_longest 3 (some .int) (rmA 0) [va_rf (some md)] (fun v S' => v = some (.int (if fw A (aNs A) 0 = aNs A then -1 else nI (fw A (aNs A) 0))) ∧ S' = S) (fun _ => False) := by
  have h50 := hv.2.2.1
  refine MT_of (by decide +kernel) hl rfl (Nat.le_of_ble_eq_true rfl) (fun Z hC hzl hnm hT hQ => ?_)
  change J G Z S 0 0 0 [some (va_rf (some md)), none, none] []
  have loop : ∀ (j : Nat), j ≤ aNs A → J G Z S 0 0 9 [some (va_rf (some md)), some (.int (fwV A j)), some (.int (nI j - nI 1))] [] := by
    intro j
    induction j with
    | zero =>
      intro hj
      refine r_iload_n hC dX8_longest_9 rfl rfl ?_
      refine r_iflt (tgt := 34) hC dX8_longest_10 (by decide) (fun h10 => ?_) (fun h10 => ?_)
      · refine r_iload_n hC dX8_longest_34 rfl rfl ?_
        refine r_iret hC hQ rfl dX8_longest_35 (Nat.le_of_ble_eq_true rfl) (Nat.le_of_ble_eq_true rfl) ?_
        exact ⟨rfl, rfl⟩
      · exact absurd (by decide) h10
    | succ j ih =>
      intro hj
      have ih := ih (by omega)
      rw [fwV_s (by omega)] at ih
      have hw1 := (hv.2.2.2.2.2.2.2.2.1 j (by omega)).1
      rw [pk_sub (show 1 ≤ j + 1 by omega), Nat.add_sub_cancel]
      refine r_iload_n hC dX8_longest_9 rfl rfl ?_
      refine r_iflt (tgt := 34) hC dX8_longest_10 (by decide) (fun h10 => ?_) (fun h10 => ?_)
      · exact absurd h10 (nI_pos (by omega))
      · skip
        refine r_aload_n hC dX8_longest_13 rfl rfl ?_
        refine r_getR  hC fl_X8_49 dX8_longest_14 (hM.kd) (hM.r 16 rfl) ?_
        refine r_iload_n hC dX8_longest_17 rfl rfl ?_
        refine r_zald hC dX8_longest_18 (hM.k 16 rfl) (rfl) (hM.lt 16 rfl (by show _ < 50; omega)) (hM.b 16 rfl) ((congrFun (hM.a 16 rfl) _).trans (hW j (by omega))) ?_
        refine r_ifeq (tgt := 26) hC dX8_longest_19 (by decide) (fun h19 => ?_) (fun h19 => ?_)
        · have hz : aWt A j ≠ 1 := fun z => by rw [z] at h19; exact absurd h19 (by decide)
          rw [if_neg hz] at ih
          refine r_iload_n hC dX8_longest_26 rfl rfl ?_
          refine r_istore_n hC dX8_longest_27 rfl (by decide) ?_
          refine r_iinc hC dX8_longest_28 rfl (iim2 _) ?_
          refine r_goto (tgt := 9) hC dX8_longest_31 (by decide) ?_
          exact ih
        · have hz : aWt A j = 1 := by
            have : aWt A j ≠ 0 := fun z => h19 (by rw [z]; rfl)
            omega
          rw [if_pos hz] at ih
          refine r_iload_n hC dX8_longest_22 rfl rfl ?_
          refine r_goto (tgt := 27) hC dX8_longest_23 (by decide) ?_
          refine r_istore_n hC dX8_longest_27 rfl (by decide) ?_
          refine r_iinc hC dX8_longest_28 rfl (iim2 _) ?_
          refine r_goto (tgt := 9) hC dX8_longest_31 (by decide) ?_
          exact ih
  refine r_iconst (v := (-1)) hC dX8_longest_0 (by decide) ?_
  refine r_istore_n hC dX8_longest_1 rfl (by decide) ?_
  refine r_aload_n hC dX8_longest_2 rfl rfl ?_
  refine r_getI hC fl_X8_143 rfl dX8_longest_3 (hM.kd) ((hM.n 14 rfl).trans hN) ?_
  refine r_iconst (v := nI 1) hC dX8_longest_6 (by decide) ?_
  refine r_isub hC dX8_longest_7 ?_
  refine r_istore_n hC dX8_longest_8 rfl (by decide) ?_
  rw [← fwV_n A]
  exact loop (aNs A) (Nat.le_refl _)
set_option maxRecDepth 100000 in
theorem m_isOn (hl : l.stackTraces = false) (hM : MM S tg md V N R) (hv : VU A) (hN : N 5 = nI (aNo A)) {n j : Nat} (hn : n < 645) (hj : j < 50) (hL : atL (R 9) (R 10) (R 11) A n) :
    MT l G S yX8_isOn cX8_isOn 3 (some .boolean) (rmA 0) [va_rf (some md), .int (nI n), .int (nI j)] (fun v S' => v = some (.int (bI (onQ A n j))) ∧ S' = S) (fun _ => False) := by
  have h5 := hv.2.1
  refine MT_of (by decide +kernel) hl rfl (Nat.le_of_ble_eq_true rfl) (fun Z hC hzl hnm hT hQ => ?_)
  change J G Z S 0 0 0 [some (va_rf (some md)), some (.int (nI n)), some (.int (nI j))] []
  have no : onQ A n j = false → J G Z S 0 0 47 [some (va_rf (some md)), some (.int (nI n)), some (.int (nI j))] [] := by
    intro hq
    refine r_iconst (v := nI 0) hC dX8_isOn_47 (by decide) ?_
    refine r_zret hC hQ rfl (by decide) dX8_isOn_48 (Nat.le_of_ble_eq_true rfl) (Nat.le_of_ble_eq_true rfl) ?_
    rw [hq]
    exact ⟨rfl, rfl⟩
  have nf : ¬ (onQ A n j = true) → onQ A n j = false := Bool.eq_false_iff.mpr
  refine r_iload_n hC dX8_isOn_0 rfl rfl ?_
  refine r_bipush (v := nI 43) hC dX8_isOn_1 (by decide) ?_
  refine r_idiv hC dX8_isOn_3 (by decide) ?_
  rw [pk_div (by omega) (by decide) (by decide)]
  refine r_iconst (v := nI 3) hC dX8_isOn_4 (by decide) ?_
  refine r_idiv hC dX8_isOn_5 (by decide) ?_
  rw [pk_div (by omega) (by decide) (by decide)]
  refine r_aload_n hC dX8_isOn_6 rfl rfl ?_
  refine r_getI hC fl_X8_79 rfl dX8_isOn_7 (hM.kd) ((hM.n 5 rfl).trans hN) ?_
  refine r_icge (tgt := 47) hC dX8_isOn_10 (by decide) (fun h10 => ?_) (fun h10 => ?_)
  · have hge := (nI_leI (by omega) (by omega)).mp h10
    exact no (nf (fun z => by have := (onQ_iff.mp z).1; omega))
  · have ho : n / 43 / 3 < aNo A := Nat.lt_of_not_le (fun z => h10 (nI_le z (by omega)))
    obtain ⟨w1, w2, w3⟩ := hL ho
    obtain ⟨v1, v2⟩ := hv.2.2.2.2.2.2.2.2.2.2 _ ho (n / 43 % 3) (n % 43) (by omega)
    refine r_aload_n hC dX8_isOn_13 rfl rfl ?_
    refine r_getR  hC fl_X8_31 dX8_isOn_14 (hM.kd) (hM.r 9 rfl) ?_
    refine r_iload_n hC dX8_isOn_17 rfl rfl ?_
    refine r_iald hC dX8_isOn_18 (hM.k 9 rfl) (rfl) (hM.lt 9 rfl (by show _ < 645; omega)) (hM.b 9 rfl) ((congrFun (hM.a 9 rfl) _).trans (w1)) ?_
    refine r_iconst (v := (-1)) hC dX8_isOn_19 (by decide) ?_
    refine r_iceq (tgt := 47) hC dX8_isOn_20 (by decide) (fun h20 => ?_) (fun h20 => ?_)
    · refine no (nf (fun z => ?_))
      have hh := (onQ_iff.mp z).2.1
      rw [if_pos hh] at h20
      exact (v2 hh).2.2 h20
    · have hh : aHl A (n / 43 / 3) (n / 43 % 3) (n % 43) = 1 := Classical.byContradiction (fun z => h20 (if_neg z))
      obtain ⟨v3, v4, v5⟩ := v2 hh
      have htr := (hv.2.2.2.2.2.2.2.2.1 _ v4).2.1
      have h50 := hv.2.2.1
      rw [if_pos hh] at w2
      refine r_aload_n hC dX8_isOn_23 rfl rfl ?_
      refine r_getR  hC fl_X8_37 dX8_isOn_24 (hM.kd) (hM.r 11 rfl) ?_
      refine r_iload_n hC dX8_isOn_27 rfl rfl ?_
      refine r_iald hC dX8_isOn_28 (hM.k 11 rfl) (rfl) (hM.lt 11 rfl (by show _ < 645; omega)) (hM.b 11 rfl) ((congrFun (hM.a 11 rfl) _).trans (w2)) ?_
      refine r_iconst (v := (-1)) hC dX8_isOn_29 (by decide) ?_
      refine r_icne (tgt := 47) hC dX8_isOn_30 (by decide) (fun h30 => ?_) (fun h30 => ?_)
      · refine no (nf (fun z => ?_))
        exact absurd (onQ_iff.mp z).2.2.1 ((trV_ne htr).mp h30)
      · have hz : aTr A (aLs A (n / 43 / 3) (n / 43 % 3) (n % 43)) = 0 := Classical.byContradiction (fun z => (trV_ne htr).mpr z h30)
        refine r_aload_n hC dX8_isOn_33 rfl rfl ?_
        refine r_getR  hC fl_X8_34 dX8_isOn_34 (hM.kd) (hM.r 10 rfl) ?_
        refine r_iload_n hC dX8_isOn_37 rfl rfl ?_
        refine r_iald hC dX8_isOn_38 (hM.k 10 rfl) (rfl) (hM.lt 10 rfl (by show _ < 645; omega)) (hM.b 10 rfl) ((congrFun (hM.a 10 rfl) _).trans (w3 hh)) ?_
        refine r_iload_n hC dX8_isOn_39 rfl rfl ?_
        refine r_icne (tgt := 47) hC dX8_isOn_40 (by decide) (fun h40 => ?_) (fun h40 => ?_)
        · refine no (nf (fun z => h40 ?_))
          rw [(onQ_iff.mp z).2.2.2]
        · have hs := (nI_eq (by omega) (by omega)).mp h40
          refine r_iconst (v := nI 1) hC dX8_isOn_43 (by decide) ?_
          refine r_goto (tgt := 48) hC dX8_isOn_44 (by decide) ?_
          refine r_zret hC hQ rfl (by decide) dX8_isOn_48 (Nat.le_of_ble_eq_true rfl) (Nat.le_of_ble_eq_true rfl) ?_
          rw [onQ_iff.mpr ⟨ho, hh, hz, hs⟩]
          exact ⟨rfl, rfl⟩
def tcF (A : AS) (j tr : Nat) (r : Nat → Int32) (n : Nat) : Nat → Int32 := fun m => if m < n ∧ onQ A m j = true then nI tr else r m
theorem tcF_0 (A : AS) (j tr : Nat) (r : Nat → Int32) : tcF A j tr r 0 = r := by
  funext m
  exact if_neg (fun z => absurd z.1 (Nat.not_lt_zero m))
theorem tcF_s (A : AS) (j tr : Nat) (r : Nat → Int32) (n : Nat) : upd (tcF A j tr r n) n (if onQ A n j = true then nI tr else r n) = tcF A j tr r (n + 1) := by
  funext m
  by_cases hm : m = n
  · subst hm
    rw [pk_us]
    unfold tcF
    by_cases hq : onQ A m j = true
    · rw [if_pos hq, if_pos ⟨Nat.lt_succ_self m, hq⟩]
    · rw [if_neg hq, if_neg (fun z => hq z.2)]
  · rw [pk_un hm]
    unfold tcF
    by_cases hz : m < n ∧ onQ A m j = true
    · rw [if_pos hz, if_pos ⟨by omega, hz.2⟩]
    · rw [if_neg hz, if_neg (fun z => hz ⟨by omega, z.2⟩)]
theorem tcF_n {A : AS} {j tr : Nat} {r : Nat → Int32} {n : Nat} : tcF A j tr r n n = r n := if_neg (fun z => absurd z.1 (Nat.lt_irrefl n))
theorem MC.cut {N : Nat → Int32} {R : Nat → Nat → Int32} {A : AS} (hv : VU A) (h : MC N R A) {kk j dn tr : Nat} (ht : aTr A j = 0) :
    MC N (uR (uR (uR R 17 (upd (R 17) kk (nI dn))) 11 (tcF A j tr (R 11) 645)) 16 (upd (R 16) j (nI 0))) (uD (uD (uD A 10 kk 0 0 dn) 8 j 0 0 0) 9 j 0 0 (tr + 1)) := by
  obtain ⟨a1, a2, a3, a4, a5, a6, a7⟩ := h
  have h5 := hv.2.1
  refine ⟨a1, a2, a3, fun o ho c hc f hf => ?_, a5, fun i hi => ⟨?_, (a6 i hi).2⟩, fun i hi => ?_⟩
  · have ho : o < aNo A := ho
    obtain ⟨w1, w2, w3⟩ := a4 o ho c hc f hf
    have hlx := LX_lt (o := o) (c := c) (f := f) (by omega) hc hf
    obtain ⟨x1, x2, x3⟩ := LX_o (o := o) hc hf
    have hq := onQ_iff (A := A) (n := LX o c f) (j := j)
    rw [x1, x2, x3] at hq
    refine ⟨w1, ?_, w3⟩
    show (if LX o c f < 645 ∧ onQ A (LX o c f) j = true then nI tr else R 11 (LX o c f)) = (if aHl A o c f = 1 then trV (if aLs A o c f = j ∧ (0 : Nat) = 0 ∧ (0 : Nat) = 0 then tr + 1 else aTr A (aLs A o c f)) else -1)
    by_cases hh : aHl A o c f = 1
    · rw [if_pos hh]
      by_cases hz : aLs A o c f = j
      · rw [if_pos ⟨hlx, hq.mpr ⟨ho, hh, by rw [hz]; exact ht, hz⟩⟩, if_pos ⟨hz, rfl, rfl⟩]
        rfl
      · rw [if_neg (fun z => hz (hq.mp z.2).2.2.2), if_neg (fun z => hz z.1), w2, if_pos hh]
    · rw [if_neg hh, if_neg (fun z => hh (hq.mp z.2).2.1), w2, if_neg hh]
  · show upd (R 16) j (nI 0) i = nI (if i = j ∧ (0 : Nat) = 0 ∧ (0 : Nat) = 0 then 0 else aWt A i)
    by_cases hz : i = j
    · rw [hz, pk_us, if_pos ⟨rfl, rfl, rfl⟩]
    · rw [pk_un hz, if_neg (fun z => hz z.1)]
      exact (a6 i hi).1
  · show upd (R 17) kk (nI dn) i = nI (if i = kk ∧ (0 : Nat) = 0 ∧ (0 : Nat) = 0 then dn else aDl A i)
    by_cases hz : i = kk
    · rw [hz, pk_us, if_pos ⟨rfl, rfl, rfl⟩]
    · rw [pk_un hz, if_neg (fun z => hz z.1)]
      exact a7 i hi
set_option maxRecDepth 100000 in
set_option maxHeartbeats 4000000 in
theorem m_cut (hl : l.stackTraces = false) (hM : MM S tg md V N R) (hv : VU A) (hMC : MC N R A) (x : Int32) :
    MT l G S yX8_cut cX8_cut 5 (some .int) (rmA 2) [va_rf (some md), .int x] (EM S tg md V (oCut A x)) (fun _ => False) := by
  have h50 := hv.2.2.1
  refine MT_of (by decide +kernel) hl rfl (Nat.le_of_ble_eq_true rfl) (fun Z hC hzl hnm hT hQ => ?_)
  change J G Z S 0 0 0 [some (va_rf (some md)), some (.int x), none, none, none] []
  have hzs : (zl Z).stackTraces = false := by rw [hzl]; exact hl
  obtain ⟨lg, elg⟩ : ∃ lg : Int32, lg = if fw A (aNs A) 0 = aNs A then -1 else nI (fw A (aNs A) 0) := ⟨_, rfl⟩
  have thr : ∀ k, k ≠ 0 → k < 10 → oCut A x = (k, 0, A) → J G Z S 0 0 29 [some (va_rf (some md)), some (.int x), some (.int lg), none, none] [.int (nI k), va_rf (some md)] := by
    intro k hk0 hk e
    have hd : decide (nI k = 0) = false := decide_eq_false (nI_ne0 (by omega) (by omega))
    refine r_cV (as := [.int (nI k)]) hC (m_goes hzs hM (nI k)) cs_X8_goes q_1010 q_1012 q_52 (hM.kd) (by decide) rfl dX8_cut_29 rfl rfl ⟨Nat.le_of_ble_eq_true rfl, Nat.le_of_ble_eq_true rfl⟩ (Nat.le_of_ble_eq_true rfl) ⟨Nat.le_of_ble_eq_true rfl, Nat.le_of_ble_eq_true rfl⟩ (fun v29 S29 p29 => ?_) (fun _ x => x.elim)
    obtain ⟨rfl, h1⟩ := p29
    rw [hd]
    refine r_ifne (tgt := 37) hC dX8_cut_32 (by decide) (fun h32 => ?_) (fun h32 => ?_)
    · exact absurd rfl h32
    · refine r_iconst (v := nI 0) hC dX8_cut_35 (by decide) ?_
      refine r_iret hC hQ rfl dX8_cut_36 (Nat.le_of_ble_eq_true rfl) (Nat.le_of_ble_eq_true rfl) ?_
      exact EM.thr h1 hMC ⟨k, e, hk0, rfl⟩ ⟨_, rfl⟩
  refine r_aload_n hC dX8_cut_0 rfl rfl ?_
  refine r_cV (as := []) hC (m_longest hzs hM hv hMC.1.2.2.1 (fun j hj => (hMC.2.2.2.2.2.1 j hj).1)) cs_X8_longest q_1135 q_1137 q_66 (hM.kd) (by decide) rfl dX8_cut_1 rfl rfl ⟨Nat.le_of_ble_eq_true rfl, Nat.le_of_ble_eq_true rfl⟩ (Nat.le_of_ble_eq_true rfl) ⟨Nat.le_of_ble_eq_true rfl, Nat.le_of_ble_eq_true rfl⟩ (fun v1 S1 p1 => ?_) (fun _ x => x.elim)
  obtain ⟨rfl, e1⟩ := p1
  rw [e1, ← elg]
  refine r_istore_n hC dX8_cut_4 rfl (by decide) ?_
  refine r_aload_n hC dX8_cut_5 rfl rfl ?_
  refine r_iload_n hC dX8_cut_6 rfl rfl ?_
  refine r_iconst (v := nI 0) hC dX8_cut_7 (by decide) ?_
  refine r_iconst (v := nI 1) hC dX8_cut_8 (by decide) ?_
  refine r_cS (as := [.int x, .int (nI 0), .int (nI 1)]) hC (m_isInL hzs x (n := 1) (by decide)) cs_X8_isIn q_1022 q_1023 dX8_cut_9 rfl rfl ⟨Nat.le_of_ble_eq_true rfl, Nat.le_of_ble_eq_true rfl⟩ (Nat.le_of_ble_eq_true rfl) ⟨Nat.le_of_ble_eq_true rfl, Nat.le_of_ble_eq_true rfl⟩ (fun v9 S9 p9 => ?_) (fun _ x => x.elim)
  obtain ⟨rfl, e9⟩ := p9
  rw [e9]
  cases hb : ixb x 2 with
  | false =>
    refine r_ifne (tgt := 19) hC dX8_cut_12 (by decide) (fun h12 => ?_) (fun h12 => ?_)
    · exact absurd rfl h12
    · refine r_iconst (v := nI 1) hC dX8_cut_15 (by decide) ?_
      refine r_goto (tgt := 29) hC dX8_cut_16 (by decide) ?_
      exact thr 1 (by decide) (by decide) (by unfold oCut; rw [if_neg (by rw [hb]; decide)])
  | true =>
    obtain ⟨k, hk, rfl, hkk⟩ := ixb_of (by decide) hb
    have hdu := hMC.2.2.2.2.2.2 k hk
    have h60 := hv.2.2.2.2.2.2.2.2.2.1 k
    obtain ⟨f1, f2⟩ := fw_le A (aNs A) 0
    refine r_ifne (tgt := 19) hC dX8_cut_12 (by decide) (fun h12 => ?_) (fun h12 => ?_)
    rotate_left
    · exact absurd h12 (by decide)
    · skip
      refine r_iload_n hC dX8_cut_19 rfl rfl ?_
      refine r_iconst (v := (-1)) hC dX8_cut_20 (by decide) ?_
      refine r_icne (tgt := 28) hC dX8_cut_21 (by decide) (fun h21 => ?_) (fun h21 => ?_)
      · have hz : fw A (aNs A) 0 ≠ aNs A := fun z => h21 (by rw [elg, if_pos z])
        obtain ⟨j, ej⟩ : ∃ j, j = fw A (aNs A) 0 := ⟨_, rfl⟩
        rw [← ej] at f1 f2 hz
        have hj : j < aNs A := by omega
        have hw := f2 (by omega)
        obtain ⟨v1, v2, v3⟩ := hv.2.2.2.2.2.2.2.2.1 j hj
        have ht := v3 hw
        have e : oCut A (nI k) = (0, nI (aDl A k / 4), uD (uD (uD A 10 k 0 0 (dnew (aDl A k))) 8 j 0 0 0) 9 j 0 0 (aDl A k / 4 + 1)) := by
          unfold oCut
          rw [if_pos hb, ← ej, if_neg hz, hkk]
        rw [← ej, if_neg hz] at elg
        subst elg
        refine r_iconst (v := nI 0) hC dX8_cut_28 (by decide) ?_
        refine r_cV (as := [.int (nI 0)]) hC (m_goes hzs hM (nI 0)) cs_X8_goes q_1010 q_1012 q_52 (hM.kd) (by decide) rfl dX8_cut_29 rfl rfl ⟨Nat.le_of_ble_eq_true rfl, Nat.le_of_ble_eq_true rfl⟩ (Nat.le_of_ble_eq_true rfl) ⟨Nat.le_of_ble_eq_true rfl, Nat.le_of_ble_eq_true rfl⟩ (fun v29 S29 p29 => ?_) (fun _ x => x.elim)
        obtain ⟨rfl, h1⟩ := p29
        obtain ⟨tr, etr⟩ : ∃ tr, tr = aDl A k / 4 := ⟨_, rfl⟩
        have loop : ∀ (d n : Nat) (S1 : PS), n + d = 645 → MX S S1 tg md V (uN N 23 (nI 0)) (uR (uR R 17 (upd (R 17) k (nI (dnew (aDl A k))))) 11 (tcF A j tr (R 11) n)) →
            J G Z S1 0 0 74 [some (va_rf (some md)), some (.int (nI k)), some (.int (nI j)), some (.int (nI tr)), some (.int (nI n))] [] := by
          intro d
          induction d with
          | zero =>
            intro n S1 hn h2
            have hn : n = 645 := by omega
            subst hn
            refine r_iload hC dX8_cut_74 rfl ?_
            refine r_sipush (v := nI 645) hC dX8_cut_76 (by decide) ?_
            refine r_icge (tgt := 116) hC dX8_cut_79 (by decide) (fun h79 => ?_) (fun h79 => ?_)
            · refine r_aload_n hC dX8_cut_116 rfl rfl ?_
              refine r_getR  hC fl_X8_49 dX8_cut_117 (h2.1.kd) (h2.1.r 16 rfl) ?_
              refine r_iload_n hC dX8_cut_120 rfl rfl ?_
              refine r_iconst (v := nI 0) hC dX8_cut_121 (by decide) ?_
              refine r_zast hC dX8_cut_122 (h2.1.k 16 rfl) (rfl) (h2.1.lt 16 rfl (by show _ < 50; omega)) (h2.1.b 16 rfl) (by decide) ?_
              have h3 := h2.su 16 rfl j (nI 0)
              refine r_iload_n hC dX8_cut_123 rfl rfl ?_
              refine r_iret hC hQ rfl dX8_cut_124 (Nat.le_of_ble_eq_true rfl) (Nat.le_of_ble_eq_true rfl) ?_
              rw [e, ← etr]
              exact EM.ok h3 ((hMC.cut hv ht).n23 _) rfl rfl rfl
            · exact absurd (Int32.le_refl _) h79
          | succ d ih =>
            intro n S1 hn h2
            have hn645 : n < 645 := by omega
            have hat := hMC.2.2.2.1.at_ n
            have hat2 : atL (R 9) (R 10) (tcF A j tr (R 11) n) A n := by
              intro ho
              rw [tcF_n]
              exact hat ho
            refine r_iload hC dX8_cut_74 rfl ?_
            refine r_sipush (v := nI 645) hC dX8_cut_76 (by decide) ?_
            refine r_icge (tgt := 116) hC dX8_cut_79 (by decide) (fun h79 => ?_) (fun h79 => ?_)
            · exact absurd ((nI_leI (by omega) (by omega)).mp h79) (by omega)
            · refine r_aload_n hC dX8_cut_82 rfl rfl ?_
              refine r_getR  hC fl_X8_37 dX8_cut_83 (h2.1.kd) (h2.1.r 11 rfl) ?_
              refine r_iload hC dX8_cut_86 rfl ?_
              refine r_aload_n hC dX8_cut_88 rfl rfl ?_
              refine r_iload hC dX8_cut_89 rfl ?_
              refine r_iload_n hC dX8_cut_91 rfl rfl ?_
              refine r_cV (as := [.int (nI n), .int (nI j)]) hC (m_isOn hzs h2.1 hv (hMC.1.2.1) hn645 (show j < 50 by omega) hat2) cs_X8_isOn q_1139 q_1141 q_67 (h2.1.kd) (by decide) rfl dX8_cut_92 rfl rfl ⟨Nat.le_of_ble_eq_true rfl, Nat.le_of_ble_eq_true rfl⟩ (Nat.le_of_ble_eq_true rfl) ⟨Nat.le_of_ble_eq_true rfl, Nat.le_of_ble_eq_true rfl⟩ (fun v92 S92 p92 => ?_) (fun _ x => x.elim)
              obtain ⟨rfl, e92⟩ := p92
              rw [e92]
              have st : J G Z S1 0 0 109 [some (va_rf (some md)), some (.int (nI k)), some (.int (nI j)), some (.int (nI tr)), some (.int (nI n))] [.int (if onQ A n j = true then nI tr else R 11 n), .int (nI n), va_rf (some (V 11))] := by
                refine r_iast hC dX8_cut_109 (h2.1.k 11 rfl) (rfl) (h2.1.lt 11 rfl (by show _ < 645; omega)) (h2.1.b 11 rfl) ?_
                have h3 := h2.su 11 rfl n (if onQ A n j = true then nI tr else R 11 n)
                rw [uR_uR] at h3
                refine r_iinc hC dX8_cut_110 rfl (ii1 _) ?_
                refine r_goto (tgt := 74) hC dX8_cut_113 (by decide) ?_
                refine ih (n + 1) _ (by omega) ?_
                rw [← tcF_s]
                exact h3
              cases hq : onQ A n j with
              | false =>
                rw [if_neg (by rw [hq]; decide)] at st
                refine r_ifeq (tgt := 102) hC dX8_cut_95 (by decide) (fun h95 => ?_) (fun h95 => ?_)
                · refine r_aload_n hC dX8_cut_102 rfl rfl ?_
                  refine r_getR  hC fl_X8_37 dX8_cut_103 (h2.1.kd) (h2.1.r 11 rfl) ?_
                  refine r_iload hC dX8_cut_106 rfl ?_
                  refine r_iald hC dX8_cut_108 (h2.1.k 11 rfl) (rfl) (h2.1.lt 11 rfl (by show _ < 645; omega)) (h2.1.b 11 rfl) ((congrFun (h2.1.a 11 rfl) _).trans (tcF_n)) ?_
                  exact st
                · exact absurd rfl h95
              | true =>
                rw [if_pos hq] at st
                refine r_ifeq (tgt := 102) hC dX8_cut_95 (by decide) (fun h95 => ?_) (fun h95 => ?_)
                · exact absurd h95 (by decide)
                · refine r_iload_n hC dX8_cut_98 rfl rfl ?_
                  refine r_goto (tgt := 109) hC dX8_cut_99 (by decide) ?_
                  exact st
        have st : ∀ w, w = dnew (aDl A k) → J G Z S29 0 0 70 [some (va_rf (some md)), some (.int (nI k)), some (.int (nI j)), some (.int (nI tr)), none] [.int (nI w), .int (nI k), va_rf (some (V 17))] := by
          intro w hw
          subst hw
          refine r_iast hC dX8_cut_70 (h1.1.k 17 rfl) (rfl) (h1.1.lt 17 rfl (by show _ < 2; omega)) (h1.1.b 17 rfl) ?_
          have h2 := h1.su 17 rfl k (nI (dnew (aDl A k)))
          refine r_iconst (v := nI 0) hC dX8_cut_71 (by decide) ?_
          refine r_istore hC dX8_cut_72 (by decide) ?_
          refine loop 645 0 _ rfl ?_
          rw [tcF_0, show ∀ x, uR (uR R 17 x) 11 (R 11) = uR R 17 x from fun x => uR_id rfl]
          exact h2
        refine r_ifne (tgt := 37) hC dX8_cut_32 (by decide) (fun h32 => ?_) (fun h32 => ?_)
        rotate_left
        · exact absurd h32 (by decide)
        · refine r_aload_n hC dX8_cut_37 rfl rfl ?_
          refine r_getR  hC fl_X8_53 dX8_cut_38 (h1.1.kd) (h1.1.r 17 rfl) ?_
          refine r_iload_n hC dX8_cut_41 rfl rfl ?_
          refine r_iald hC dX8_cut_42 (h1.1.k 17 rfl) (rfl) (h1.1.lt 17 rfl (by show _ < 2; omega)) (h1.1.b 17 rfl) ((congrFun (h1.1.a 17 rfl) _).trans (hdu)) ?_
          refine r_iconst (v := nI 4) hC dX8_cut_43 (by decide) ?_
          refine r_idiv hC dX8_cut_44 (by decide) ?_
          rw [pk_div (by omega) (by decide) (by decide), ← etr]
          refine r_istore_n hC dX8_cut_45 rfl (by decide) ?_
          refine r_aload_n hC dX8_cut_46 rfl rfl ?_
          refine r_getR  hC fl_X8_53 dX8_cut_47 (h1.1.kd) (h1.1.r 17 rfl) ?_
          refine r_iload_n hC dX8_cut_50 rfl rfl ?_
          refine r_dup2 hC dX8_cut_51 rfl rfl ?_
          refine r_iald hC dX8_cut_52 (h1.1.k 17 rfl) (rfl) (h1.1.lt 17 rfl (by show _ < 2; omega)) (h1.1.b 17 rfl) ((congrFun (h1.1.a 17 rfl) _).trans (hdu)) ?_
          refine r_aload_n hC dX8_cut_53 rfl rfl ?_
          refine r_getR  hC fl_X8_53 dX8_cut_54 (h1.1.kd) (h1.1.r 17 rfl) ?_
          refine r_iload_n hC dX8_cut_57 rfl rfl ?_
          refine r_iald hC dX8_cut_58 (h1.1.k 17 rfl) (rfl) (h1.1.lt 17 rfl (by show _ < 2; omega)) (h1.1.b 17 rfl) ((congrFun (h1.1.a 17 rfl) _).trans (hdu)) ?_
          refine r_bipush (v := nI 60) hC dX8_cut_59 (by decide) ?_
          refine r_icge (tgt := 68) hC dX8_cut_61 (by decide) (fun h61 => ?_) (fun h61 => ?_)
          · have h60' := (nI_leI (by omega) (by omega)).mp h61
            refine r_iconst (v := nI 0) hC dX8_cut_68 (by decide) ?_
            refine r_iadd hC dX8_cut_69 ?_
            rw [nI_add]
            refine st _ ?_
            unfold dnew
            rw [if_neg (by omega)]
            rfl
          · have h60' : aDl A k < 60 := Nat.lt_of_not_le (fun z => h61 (nI_le z (by omega)))
            refine r_iconst (v := nI 1) hC dX8_cut_64 (by decide) ?_
            refine r_goto (tgt := 69) hC dX8_cut_65 (by decide) ?_
            refine r_iadd hC dX8_cut_69 ?_
            rw [nI_add]
            refine st _ ?_
            unfold dnew
            rw [if_pos h60']
      · have hz : fw A (aNs A) 0 = aNs A := Classical.byContradiction (fun z => by
          rw [elg, if_neg z] at h21
          have := nI_pos (n := fw A (aNs A) 0) (by omega)
          rw [h21] at this
          exact this (by decide))
        refine r_iconst (v := nI 2) hC dX8_cut_24 (by decide) ?_
        refine r_goto (tgt := 29) hC dX8_cut_25 (by decide) ?_
        exact thr 2 (by decide) (by decide) (by unfold oCut; rw [if_pos hb, if_pos hz])
theorem dsc_r (A : AS) : ∀ n, (∀ r, r ≠ 8 → (dsc A n).2.1 r = A.1 r) ∧ (dsc A n).2.2 = A.2 ∧ (∀ i, n ≤ i → aWt (dsc A n).2 i = aWt A i) ∧ (dsc A n).1 ≤ n := by
  intro n
  induction n with
  | zero => exact ⟨fun _ _ => rfl, rfl, fun _ _ => rfl, Nat.le_refl _⟩
  | succ n ih =>
    obtain ⟨h1, h2, h3, h4⟩ := ih
    simp only [dsc]
    by_cases hz : aWt (dsc A n).2 n = 1 ∧ useQ (dsc A n).2 n = false
    · rw [if_pos hz]
      refine ⟨fun r hr => ?_, h2, fun i hi => ?_, Nat.succ_le_succ h4⟩
      · rw [← h1 r hr]
        funext i j k
        show (if r = 8 then _ else (dsc A n).2.1 r i j k) = _
        rw [if_neg hr]
      · show (if i = n ∧ (0 : Nat) = 0 ∧ (0 : Nat) = 0 then 0 else aWt (dsc A n).2 i) = _
        rw [if_neg (fun z => by omega)]
        exact h3 i (by omega)
    · rw [if_neg hz]
      exact ⟨h1, h2, fun i hi => h3 i (by omega), by omega⟩
theorem dsc_use (A : AS) (n j : Nat) : useQ (dsc A n).2 j = useQ A j := by
  obtain ⟨h1, h2, -⟩ := dsc_r A n
  unfold useQ aHl aLs aNc aNo
  rw [h1 5 (by decide), h1 6 (by decide), h1 3 (by decide), h1 0 (by decide)]
theorem MC.dsc {N : Nat → Int32} {R : Nat → Nat → Int32} {A : AS} (h : MC N R A) {g : Nat → Int32} {n : Nat} (hg : ∀ j, j < aNs A → g j = nI (aWt (dsc A n).2 j)) : MC N (uR R 16 g) (dsc A n).2 := by
  obtain ⟨h1, h2, -⟩ := dsc_r A n
  obtain ⟨a1, a2, a3, a4, a5, a6, a7⟩ := h
  have e0 := h1 0 (by decide)
  refine ⟨?_, ?_, ?_, ?_, ?_, fun j hj => ⟨hg j ?_, ?_⟩, ?_⟩
  · unfold mNm aNb aNo aNs aTol aSp; rw [e0]; exact a1
  · unfold mBk aNb aSz aPs aBt aCv; rw [e0, h1 1 (by decide), h2]; exact a2
  · unfold mOr aNo aOb aNc aBd; rw [e0, h1 2 (by decide), h1 3 (by decide), h1 4 (by decide)]; exact a3
  · unfold mLv aNo aHl aPos aTr aLs; rw [e0, h1 5 (by decide), h1 6 (by decide), h1 9 (by decide), h2]; exact a4
  · unfold mFo aFd; rw [h1 7 (by decide)]; exact a5
  · unfold aNs at hj ⊢; rw [e0] at hj; exact hj
  · have hj' : j < aNs A := by unfold aNs at hj ⊢; rw [e0] at hj; exact hj
    unfold aLi
    rw [h1 11 (by decide)]
    exact (a6 j hj').2
  · unfold mDu aDl; rw [h1 10 (by decide)]; exact a7
set_option maxRecDepth 100000 in
set_option maxHeartbeats 4000000 in
theorem m_discard (hl : l.stackTraces = false) (hM : MM S tg md V N R) (hv : VU A) (hMC : MC N R A) :
    MT l G S yX8_discard cX8_discard 5 (some .int) (rmA 1) [va_rf (some md)] (EM S tg md V (oDiscard A)) (fun _ => False) := by
  have h50 := hv.2.2.1
  refine MT_of (by decide +kernel) hl rfl (Nat.le_of_ble_eq_true rfl) (fun Z hC hzl hnm hT hQ => ?_)
  change J G Z S 0 0 0 [some (va_rf (some md)), none, none, none, none] []
  have hzs : (zl Z).stackTraces = false := by rw [hzl]; exact hl
  refine r_aload_n hC dX8_discard_0 rfl rfl ?_
  refine r_iconst (v := nI 0) hC dX8_discard_1 (by decide) ?_
  refine r_putI hC fl_X8_69 rfl (by decide) dX8_discard_2 (hM.kd) (fun h => absurd h (by decide)) ?_
  have h0 := (MX.rf hM).sn 23 rfl (nI 0)
  have loop : ∀ (d j : Nat) (S1 : PS) (g : Nat → Int32) (o3 o4 : Option Value), j + d = aNs A → MX S S1 tg md V (uN N 23 (nI 0)) (uR R 16 g) → (∀ i, i < aNs A → g i = nI (aWt (dsc A j).2 i)) →
      J G Z S1 0 0 9 [some (va_rf (some md)), some (.int (nI (dsc A j).1)), some (.int (nI j)), o3, o4] [] := by
    intro d
    induction d with
    | zero =>
      intro j S1 g o3 o4 hj h1 hg
      have hj : j = aNs A := by omega
      subst hj
      refine r_iload_n hC dX8_discard_9 rfl rfl ?_
      refine r_aload_n hC dX8_discard_10 rfl rfl ?_
      refine r_getI hC fl_X8_143 rfl dX8_discard_11 (h1.1.kd) ((h1.1.n 14 rfl).trans hMC.1.2.2.1) ?_
      refine r_icge (tgt := 89) hC dX8_discard_14 (by decide) (fun h14 => ?_) (fun h14 => ?_)
      · refine r_iload_n hC dX8_discard_89 rfl rfl ?_
        refine r_iret hC hQ rfl dX8_discard_90 (Nat.le_of_ble_eq_true rfl) (Nat.le_of_ble_eq_true rfl) ?_
        exact EM.ok h1 ((hMC.dsc hg).n23 _) rfl rfl rfl
      · exact absurd (Int32.le_refl _) h14
    | succ d ih =>
      intro j S1 g o3 o4 hj h1 hg
      have hjn : j < aNs A := by omega
      have hM1 := h1.1
      obtain ⟨r1, r2, r3, r4⟩ := dsc_r A j
      have hwj : aWt (dsc A j).2 j = aWt A j := r3 j (Nat.le_refl _)
      have hgj := hg j hjn
      rw [hwj] at hgj
      obtain ⟨v1, v2, v3⟩ := hv.2.2.2.2.2.2.2.2.1 j hjn
      have ed : dsc A (j + 1) = if aWt A j = 1 ∧ useQ A j = false then ((dsc A j).1 + 1, uD (dsc A j).2 8 j 0 0 0) else dsc A j := by
        simp only [dsc]
        rw [hwj, dsc_use]
      have nxt : ∀ S2 g' n o3' o4', n = (dsc A (j + 1)).1 → MX S S2 tg md V (uN N 23 (nI 0)) (uR R 16 g') → (∀ i, i < aNs A → g' i = nI (aWt (dsc A (j + 1)).2 i)) →
          J G Z S2 0 0 83 [some (va_rf (some md)), some (.int (nI n)), some (.int (nI j)), o3', o4'] [] := by
        intro S2 g' n o3' o4' hn h2 hg2
        subst hn
        refine r_iinc hC dX8_discard_83 rfl (ii1 _) ?_
        refine r_goto (tgt := 9) hC dX8_discard_86 (by decide) ?_
        exact ih (j + 1) S2 g' _ _ (by omega) h2 hg2
      have inner : ∀ (d n : Nat), n + d = 645 → J G Z S1 0 0 35 [some (va_rf (some md)), some (.int (nI (dsc A j).1)), some (.int (nI j)), some (.int (bI (decide (aWt A j ≠ 1) || anQ (fun n => onQ A n j) n))), some (.int (nI n))] [] := by
        intro d
        induction d with
        | zero =>
          intro n hn
          have hn : n = 645 := by omega
          subst hn
          refine r_iload hC dX8_discard_35 rfl ?_
          refine r_sipush (v := nI 645) hC dX8_discard_37 (by decide) ?_
          refine r_icge (tgt := 69) hC dX8_discard_40 (by decide) (fun h40 => ?_) (fun h40 => ?_)
          rotate_left
          · exact absurd (Int32.le_refl _) h40
          · by_cases hw : aWt A j = 1
            · rw [decide_eq_false (fun z => z hw), Bool.false_or, useN_eq hv (v3 hw)]
              cases hu : useQ A j with
              | true =>
                refine r_iload_n hC dX8_discard_69 rfl rfl ?_
                refine r_ifne (tgt := 83) hC dX8_discard_70 (by decide) (fun h70 => ?_) (fun h70 => ?_)
                · have ed2 : dsc A (j + 1) = dsc A j := by rw [ed, if_neg (fun z => by rw [hu] at z; exact absurd z.2 (by decide))]
                  exact nxt S1 g _ _ _ (by rw [ed2]) h1 (by rw [ed2]; exact hg)
                · exact absurd h70 (by decide)
              | false =>
                have ed2 : dsc A (j + 1) = ((dsc A j).1 + 1, uD (dsc A j).2 8 j 0 0 0) := by rw [ed, if_pos ⟨hw, hu⟩]
                refine r_iload_n hC dX8_discard_69 rfl rfl ?_
                refine r_ifne (tgt := 83) hC dX8_discard_70 (by decide) (fun h70 => ?_) (fun h70 => ?_)
                · exact absurd rfl h70
                · refine r_aload_n hC dX8_discard_73 rfl rfl ?_
                  refine r_getR  hC fl_X8_49 dX8_discard_74 (hM1.kd) (hM1.r 16 rfl) ?_
                  refine r_iload_n hC dX8_discard_77 rfl rfl ?_
                  refine r_iconst (v := nI 0) hC dX8_discard_78 (by decide) ?_
                  refine r_zast hC dX8_discard_79 (hM1.k 16 rfl) (rfl) (hM1.lt 16 rfl (by show _ < 50; omega)) (hM1.b 16 rfl) (by decide) ?_
                  have h2 := h1.su 16 rfl j (nI 0)
                  rw [uR_uR] at h2
                  refine r_iinc hC dX8_discard_80 rfl (ii1 _) ?_
                  refine nxt _ (upd g j (nI 0)) _ _ _ (by rw [ed2]) h2 (fun i hi => ?_)
                  rw [ed2]
                  show upd g j (nI 0) i = nI (if i = j ∧ (0 : Nat) = 0 ∧ (0 : Nat) = 0 then 0 else aWt (dsc A j).2 i)
                  by_cases hz : i = j
                  · rw [hz, pk_us, if_pos ⟨rfl, rfl, rfl⟩]
                  · rw [pk_un hz, if_neg (fun z => hz z.1)]
                    exact hg i hi
            · have ed2 : dsc A (j + 1) = dsc A j := by rw [ed, if_neg (fun z => hw z.1)]
              rw [decide_eq_true hw, Bool.true_or]
              refine r_iload_n hC dX8_discard_69 rfl rfl ?_
              refine r_ifne (tgt := 83) hC dX8_discard_70 (by decide) (fun h70 => ?_) (fun h70 => ?_)
              · exact nxt S1 g _ _ _ (by rw [ed2]) h1 (by rw [ed2]; exact hg)
              · exact absurd h70 (by decide)
        | succ d ihn =>
          intro n hn
          have hn645 : n < 645 := by omega
          have nx := ihn (n + 1) (by omega)
          simp only [anQ] at nx
          rw [← Bool.or_assoc] at nx
          refine r_iload hC dX8_discard_35 rfl ?_
          refine r_sipush (v := nI 645) hC dX8_discard_37 (by decide) ?_
          refine r_icge (tgt := 69) hC dX8_discard_40 (by decide) (fun h40 => ?_) (fun h40 => ?_)
          · exact absurd ((nI_leI (by omega) (by omega)).mp h40) (by omega)
          · cases hb : (decide (aWt A j ≠ 1) || anQ (fun n => onQ A n j) n) with
            | true =>
              rw [hb, Bool.true_or] at nx
              refine r_iload_n hC dX8_discard_43 rfl rfl ?_
              refine r_ifne (tgt := 57) hC dX8_discard_44 (by decide) (fun h44 => ?_) (fun h44 => ?_)
              · refine r_iconst (v := nI 1) hC dX8_discard_57 (by decide) ?_
                refine r_goto (tgt := 62) hC dX8_discard_58 (by decide) ?_
                refine r_istore_n hC dX8_discard_62 rfl (by decide) ?_
                refine r_iinc hC dX8_discard_63 rfl (ii1 _) ?_
                refine r_goto (tgt := 35) hC dX8_discard_66 (by decide) ?_
                exact nx
              · exact absurd h44 (by decide)
            | false =>
              rw [hb, Bool.false_or] at nx
              refine r_iload_n hC dX8_discard_43 rfl rfl ?_
              refine r_ifne (tgt := 57) hC dX8_discard_44 (by decide) (fun h44 => ?_) (fun h44 => ?_)
              · exact absurd rfl h44
              · refine r_aload_n hC dX8_discard_47 rfl rfl ?_
                refine r_iload hC dX8_discard_48 rfl ?_
                refine r_iload_n hC dX8_discard_50 rfl rfl ?_
                refine r_cV (as := [.int (nI n), .int (nI j)]) hC (m_isOn hzs hM1 hv hMC.1.2.1 hn645 (show j < 50 by omega) (hMC.2.2.2.1.at_ n)) cs_X8_isOn q_1139 q_1141 q_67 (hM1.kd) (by decide) rfl dX8_discard_51 rfl rfl ⟨Nat.le_of_ble_eq_true rfl, Nat.le_of_ble_eq_true rfl⟩ (Nat.le_of_ble_eq_true rfl) ⟨Nat.le_of_ble_eq_true rfl, Nat.le_of_ble_eq_true rfl⟩ (fun v51 S51 p51 => ?_) (fun _ x => x.elim)
                obtain ⟨rfl, e51⟩ := p51
                rw [e51]
                cases hq : onQ A n j with
                | true =>
                  rw [hq] at nx
                  refine r_ifeq (tgt := 61) hC dX8_discard_54 (by decide) (fun h54 => ?_) (fun h54 => ?_)
                  · exact absurd h54 (by decide)
                  · refine r_iconst (v := nI 1) hC dX8_discard_57 (by decide) ?_
                    refine r_goto (tgt := 62) hC dX8_discard_58 (by decide) ?_
                    refine r_istore_n hC dX8_discard_62 rfl (by decide) ?_
                    refine r_iinc hC dX8_discard_63 rfl (ii1 _) ?_
                    refine r_goto (tgt := 35) hC dX8_discard_66 (by decide) ?_
                    exact nx
                | false =>
                  rw [hq] at nx
                  refine r_ifeq (tgt := 61) hC dX8_discard_54 (by decide) (fun h54 => ?_) (fun h54 => ?_)
                  · refine r_iconst (v := nI 0) hC dX8_discard_61 (by decide) ?_
                    refine r_istore_n hC dX8_discard_62 rfl (by decide) ?_
                    refine r_iinc hC dX8_discard_63 rfl (ii1 _) ?_
                    refine r_goto (tgt := 35) hC dX8_discard_66 (by decide) ?_
                    exact nx
                  · exact absurd rfl h54
      have st : ∀ b, b = decide (aWt A j ≠ 1) → J G Z S1 0 0 31 [some (va_rf (some md)), some (.int (nI (dsc A j).1)), some (.int (nI j)), o3, o4] [.int (bI b)] := by
        intro b hb
        refine r_istore_n hC dX8_discard_31 rfl (by decide) ?_
        refine r_iconst (v := nI 0) hC dX8_discard_32 (by decide) ?_
        refine r_istore hC dX8_discard_33 (by decide) ?_
        have := inner 645 0 rfl
        rw [← hb] at this
        simp only [anQ, Bool.or_false] at this
        exact this
      refine r_iload_n hC dX8_discard_9 rfl rfl ?_
      refine r_aload_n hC dX8_discard_10 rfl rfl ?_
      refine r_getI hC fl_X8_143 rfl dX8_discard_11 (hM1.kd) ((hM1.n 14 rfl).trans hMC.1.2.2.1) ?_
      refine r_icge (tgt := 89) hC dX8_discard_14 (by decide) (fun h14 => ?_) (fun h14 => ?_)
      · exact absurd ((nI_leI (by omega) (by omega)).mp h14) (by omega)
      · skip
        refine r_aload_n hC dX8_discard_17 rfl rfl ?_
        refine r_getR  hC fl_X8_49 dX8_discard_18 (hM1.kd) (hM1.r 16 rfl) ?_
        refine r_iload_n hC dX8_discard_21 rfl rfl ?_
        refine r_zald hC dX8_discard_22 (hM1.k 16 rfl) (rfl) (hM1.lt 16 rfl (by show _ < 50; omega)) (hM1.b 16 rfl) ((congrFun (hM1.a 16 rfl) _).trans (hgj)) ?_
        refine r_ifne (tgt := 30) hC dX8_discard_23 (by decide) (fun h23 => ?_) (fun h23 => ?_)
        · have hz : aWt A j = 1 := by
            have : aWt A j ≠ 0 := fun z => h23 (by rw [z]; rfl)
            omega
          refine r_iconst (v := nI 0) hC dX8_discard_30 (by decide) ?_
          exact st false (decide_eq_false (fun z => z hz)).symm
        · have hz : aWt A j ≠ 1 := fun z => by rw [z] at h23; exact absurd h23 (by decide)
          refine r_iconst (v := nI 1) hC dX8_discard_26 (by decide) ?_
          refine r_goto (tgt := 31) hC dX8_discard_27 (by decide) ?_
          exact st true (decide_eq_true hz).symm
  refine r_iconst (v := nI 0) hC dX8_discard_5 (by decide) ?_
  refine r_istore_n hC dX8_discard_6 rfl (by decide) ?_
  refine r_iconst (v := nI 0) hC dX8_discard_7 (by decide) ?_
  refine r_istore_n hC dX8_discard_8 rfl (by decide) ?_
  refine loop (aNs A) 0 _ (R 16) none none (by omega) ?_ (fun i hi => (hMC.2.2.2.2.2.1 i hi).1)
  rw [uR_id rfl]
  exact h0
end MCut

