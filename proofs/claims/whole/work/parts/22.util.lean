/-! ===== what the calls share ===== -/
abbrev rmT (f k n : Nat) : Room := { frames := 6 + f, cells := k, slots := n, locals := 100 + 40 * f }
abbrev eIO : String := "java/lang/IndexOutOfBoundsException"
abbrev eIA : String := "java/lang/IllegalArgumentException"
abbrev eIS : String := "java/lang/IllegalStateException"
abbrev eNS : String := "java/util/NoSuchElementException"
/-- i is one of the first m numbers -/
def ixo (i : Int32) (m : Nat) : Prop := ∃ j, j < m ∧ i = nI j
theorem ixo_n {i : Int32} {m : Nat} (hm : m < 2147483648) (h : i < 0 ∨ nI m ≤ i) : ¬ ixo i m := by
  rintro ⟨j, hj, rfl⟩
  rcases h with h | h
  · exact absurd h (nI_pos (by omega))
  · exact absurd ((nI_leI (by omega) (by omega)).mp h) (by omega)
section UtilA
variable {l : Launch} {G : GG} {S : PS}
set_option maxRecDepth 100000 in
theorem c_checkIndex (hl : l.stackTraces = false) (i : Int32) {m : Nat} (hm : m < 2147483648) :
    MT l G S yX7_checkIndex cX7_checkIndex 2 none (rmT 0 1 6) [.int i, .int (nI m)] (fun v S' => v = none ∧ S' = S ∧ ixo i m) (fun E => E = eIO ∧ ¬ ixo i m) := by
  refine MT_of (by decide +kernel) hl rfl (Nat.le_of_ble_eq_true rfl) (fun Z hC hzl hnm hT hQ => ?_)
  change J G Z S 0 0 0 [some (.int i), some (.int (nI m))] []
  have thr : ¬ ixo i m → J G Z S 0 0 9 [some (.int i), some (.int (nI m))] [] := fun h =>
    r_throwW (i := 1) (E := eIO) (names := ["java/lang/RuntimeException", "java/lang/Exception"]) hC hQ hT ⟨rfl, h⟩ (by decide +kernel) (by decide +kernel) q_415 q_89 rfl hat_81 hot_81 dX7_checkIndex_9 dX7_checkIndex_12 dX7_checkIndex_13 dX7_checkIndex_16 dX7_checkIndex_19 (Nat.le_of_ble_eq_true rfl) (Nat.le_of_ble_eq_true rfl) (Nat.le_of_ble_eq_true rfl) (Nat.le_of_ble_eq_true rfl)
  refine r_iload_n hC dX7_checkIndex_0 rfl rfl ?_
  refine r_iflt (tgt := 9) hC dX7_checkIndex_1 (by decide) (fun h1 => ?_) (fun h1 => ?_)
  · exact thr (ixo_n hm (Or.inl h1))
  · skip
    refine r_iload_n hC dX7_checkIndex_4 rfl rfl ?_
    refine r_iload_n hC dX7_checkIndex_5 rfl rfl ?_
    refine r_iclt (tgt := 20) hC dX7_checkIndex_6 (by decide) (fun h6 => ?_) (fun h6 => ?_)
    · obtain ⟨j, hj, e⟩ := nI_of h1
      have hjm : j < m := by rw [e] at h6; exact (nI_ltI (by omega) (by omega)).mp h6
      refine r_vret hC hQ rfl dX7_checkIndex_20 (Nat.le_of_ble_eq_true rfl) (Nat.le_of_ble_eq_true rfl) ?_
      exact ⟨rfl, rfl, j, hjm, e⟩
    · exact thr (ixo_n hm (Or.inr (Int32.not_lt.mp h6)))
set_option maxRecDepth 100000 in
theorem c_checkRange (hl : l.stackTraces = false) (x a b : Int32) :
    MT l G S yX7_checkRange cX7_checkRange 3 none (rmT 0 1 6) [.int x, .int a, .int b] (fun v S' => v = none ∧ S' = S ∧ a ≤ x ∧ x ≤ b) (fun E => E = eIA ∧ ¬ (a ≤ x ∧ x ≤ b)) := by
  refine MT_of (by decide +kernel) hl rfl (Nat.le_of_ble_eq_true rfl) (fun Z hC hzl hnm hT hQ => ?_)
  change J G Z S 0 0 0 [some (.int x), some (.int a), some (.int b)] []
  have thr : ¬ (a ≤ x ∧ x ≤ b) → J G Z S 0 0 10 [some (.int x), some (.int a), some (.int b)] [] := fun h =>
    r_throwW (i := 3) (E := eIA) (names := ["java/lang/RuntimeException", "java/lang/Exception"]) hC hQ hT ⟨rfl, h⟩ (by decide +kernel) (by decide +kernel) q_435 q_92 rfl hat_145 hot_145 dX7_checkRange_10 dX7_checkRange_13 dX7_checkRange_14 dX7_checkRange_17 dX7_checkRange_20 (Nat.le_of_ble_eq_true rfl) (Nat.le_of_ble_eq_true rfl) (Nat.le_of_ble_eq_true rfl) (Nat.le_of_ble_eq_true rfl)
  refine r_iload_n hC dX7_checkRange_0 rfl rfl ?_
  refine r_iload_n hC dX7_checkRange_1 rfl rfl ?_
  refine r_iclt (tgt := 10) hC dX7_checkRange_2 (by decide) (fun h2 => ?_) (fun h2 => ?_)
  · exact thr (fun z => absurd (Int32.lt_of_lt_of_le h2 z.1) (by simp))
  · skip
    refine r_iload_n hC dX7_checkRange_5 rfl rfl ?_
    refine r_iload_n hC dX7_checkRange_6 rfl rfl ?_
    refine r_icle (tgt := 21) hC dX7_checkRange_7 (by decide) (fun h7 => ?_) (fun h7 => ?_)
    · skip
      refine r_vret hC hQ rfl dX7_checkRange_21 (Nat.le_of_ble_eq_true rfl) (Nat.le_of_ble_eq_true rfl) ?_
      exact ⟨rfl, rfl, Int32.not_lt.mp h2, h7⟩
    · exact thr (fun z => h7 z.2)
set_option maxRecDepth 100000 in
theorem c_bookNumbered (hl : l.stackTraces = false) {t lb nb : Nat} {bo : Nat → Nat} (kt : KD S t 7) (rt : pR S 224 t = some lb) (hb : isList G S lb nb 0 bo) (h4 : nb ≤ 4) (i : Int32) :
    MT l G S yX7_bookNumbered cX7_bookNumbered 2 (some (.object "Thumbreel$Book")) (rmT 1 1 6) [va_rf (some t), .int i] (fun v S' => ∃ j, j < nb ∧ i = nI j ∧ v = some (va_rf (some (bo j))) ∧ S' = S) (fun E => E = eIO ∧ ¬ ixo i nb) := by
  refine MT_of (by decide +kernel) hl rfl (Nat.le_of_ble_eq_true rfl) (fun Z hC hzl hnm hT hQ => ?_)
  change J G Z S 0 0 0 [some (va_rf (some t)), some (.int i)] []
  have hzs : (zl Z).stackTraces = false := by rw [hzl]; exact hl
  refine r_iload_n hC dX7_bookNumbered_0 rfl rfl ?_
  refine r_aload_n hC dX7_bookNumbered_1 rfl rfl ?_
  refine r_getR  hC fl_X7_12 dX7_bookNumbered_2 (kt) (rt) ?_
  refine r_cV (as := []) hC (c_size hzs hb.1) cs_Jx4a65c_size_8abf5 q_201 q_202 q_203 (hb.1) (by decide) rfl dX7_bookNumbered_5 rfl rfl ⟨Nat.le_of_ble_eq_true rfl, Nat.le_of_ble_eq_true rfl⟩ (Nat.le_of_ble_eq_true rfl) ⟨Nat.le_of_ble_eq_true rfl, Nat.le_of_ble_eq_true rfl⟩ (fun v5 S5 p5 => ?_) (fun _ x => x.elim)
  obtain ⟨rfl, e5⟩ := p5
  rw [e5, hb.2.1]
  refine r_cS (as := [.int i, .int (nI nb)]) hC (c_checkIndex hzs i (by omega)) cs_X7_checkIndex q_412 q_413 dX7_bookNumbered_8 rfl rfl ⟨Nat.le_of_ble_eq_true rfl, Nat.le_of_ble_eq_true rfl⟩ (Nat.le_of_ble_eq_true rfl) ⟨Nat.le_of_ble_eq_true rfl, Nat.le_of_ble_eq_true rfl⟩ (fun v8 S8 p8 => ?_) (fun E8 x8 => ?_)
  · obtain ⟨rfl, e8, j, hj, rfl⟩ := p8
    rw [e8]
    refine r_aload_n hC dX7_bookNumbered_11 rfl rfl ?_
    refine r_getR  hC fl_X7_12 dX7_bookNumbered_12 (kt) (rt) ?_
    refine r_iload_n hC dX7_bookNumbered_15 rfl rfl ?_
    refine r_cV (as := [.int (nI j)]) hC (c_get hzs hb hj (by omega)) cs_Jx4a65c_get_915e3 q_205 q_206 q_207 (hb.1) (by decide) rfl dX7_bookNumbered_16 rfl rfl ⟨Nat.le_of_ble_eq_true rfl, Nat.le_of_ble_eq_true rfl⟩ (Nat.le_of_ble_eq_true rfl) ⟨Nat.le_of_ble_eq_true rfl, Nat.le_of_ble_eq_true rfl⟩ (fun v16 S16 p16 => ?_) (fun _ x => x.elim)
    obtain ⟨rfl, e16⟩ := p16
    rw [e16]
    refine r_cast hC q_310 dX7_bookNumbered_19 (hb.2.2.choose_spec.2.2 j hj) (by decide) rfl ?_
    refine r_aret hC hQ rfl (by first | exact Or.inl ⟨_, rfl⟩ | exact Or.inr ⟨_, rfl⟩) dX7_bookNumbered_22 (Nat.le_of_ble_eq_true rfl) (Nat.le_of_ble_eq_true rfl) ?_
    exact ⟨j, hj, rfl, rfl, rfl⟩
  · exact r_out hC hQ hT (Nat.le_of_ble_eq_true rfl) (Nat.le_of_ble_eq_true rfl) x8
set_option maxRecDepth 100000 in
theorem c_orderNumbered (hl : l.stackTraces = false) {t lo no : Nat} {oo : Nat → Nat} (kt : KD S t 7) (rt : pR S 225 t = some lo) (hb : isList G S lo no 4 oo) (h5 : no ≤ 5) (i : Int32) :
    MT l G S yX7_orderNumbered cX7_orderNumbered 2 (some (.object "Thumbreel$Order")) (rmT 1 1 6) [va_rf (some t), .int i] (fun v S' => ∃ j, j < no ∧ i = nI j ∧ v = some (va_rf (some (oo j))) ∧ S' = S) (fun E => E = eIO ∧ ¬ ixo i no) := by
  refine MT_of (by decide +kernel) hl rfl (Nat.le_of_ble_eq_true rfl) (fun Z hC hzl hnm hT hQ => ?_)
  change J G Z S 0 0 0 [some (va_rf (some t)), some (.int i)] []
  have hzs : (zl Z).stackTraces = false := by rw [hzl]; exact hl
  refine r_iload_n hC dX7_orderNumbered_0 rfl rfl ?_
  refine r_aload_n hC dX7_orderNumbered_1 rfl rfl ?_
  refine r_getR  hC fl_X7_16 dX7_orderNumbered_2 (kt) (rt) ?_
  refine r_cV (as := []) hC (c_size hzs hb.1) cs_Jx4a65c_size_8abf5 q_201 q_202 q_203 (hb.1) (by decide) rfl dX7_orderNumbered_5 rfl rfl ⟨Nat.le_of_ble_eq_true rfl, Nat.le_of_ble_eq_true rfl⟩ (Nat.le_of_ble_eq_true rfl) ⟨Nat.le_of_ble_eq_true rfl, Nat.le_of_ble_eq_true rfl⟩ (fun v5 S5 p5 => ?_) (fun _ x => x.elim)
  obtain ⟨rfl, e5⟩ := p5
  rw [e5, hb.2.1]
  refine r_cS (as := [.int i, .int (nI no)]) hC (c_checkIndex hzs i (by omega)) cs_X7_checkIndex q_412 q_413 dX7_orderNumbered_8 rfl rfl ⟨Nat.le_of_ble_eq_true rfl, Nat.le_of_ble_eq_true rfl⟩ (Nat.le_of_ble_eq_true rfl) ⟨Nat.le_of_ble_eq_true rfl, Nat.le_of_ble_eq_true rfl⟩ (fun v8 S8 p8 => ?_) (fun E8 x8 => ?_)
  · obtain ⟨rfl, e8, j, hj, rfl⟩ := p8
    rw [e8]
    refine r_aload_n hC dX7_orderNumbered_11 rfl rfl ?_
    refine r_getR  hC fl_X7_16 dX7_orderNumbered_12 (kt) (rt) ?_
    refine r_iload_n hC dX7_orderNumbered_15 rfl rfl ?_
    refine r_cV (as := [.int (nI j)]) hC (c_get hzs hb hj (by omega)) cs_Jx4a65c_get_915e3 q_205 q_206 q_207 (hb.1) (by decide) rfl dX7_orderNumbered_16 rfl rfl ⟨Nat.le_of_ble_eq_true rfl, Nat.le_of_ble_eq_true rfl⟩ (Nat.le_of_ble_eq_true rfl) ⟨Nat.le_of_ble_eq_true rfl, Nat.le_of_ble_eq_true rfl⟩ (fun v16 S16 p16 => ?_) (fun _ x => x.elim)
    obtain ⟨rfl, e16⟩ := p16
    rw [e16]
    refine r_cast hC q_479 dX7_orderNumbered_19 (hb.2.2.choose_spec.2.2 j hj) (by decide) rfl ?_
    refine r_aret hC hQ rfl (by first | exact Or.inl ⟨_, rfl⟩ | exact Or.inr ⟨_, rfl⟩) dX7_orderNumbered_22 (Nat.le_of_ble_eq_true rfl) (Nat.le_of_ble_eq_true rfl) ?_
    exact ⟨j, hj, rfl, rfl, rfl⟩
  · exact r_out hC hQ hT (Nat.le_of_ble_eq_true rfl) (Nat.le_of_ble_eq_true rfl) x8
set_option maxRecDepth 100000 in
theorem c_copyNumbered (hl : l.stackTraces = false) {o ls nc : Nat} {cp : Nat → Nat} (ko : KD S o 4) (rt : pR S 130 o = some ls) (hb : isList G S ls nc 1 cp) (h3 : nc ≤ 3) (i : Int32) :
    MT l G S yX7_copyNumbered cX7_copyNumbered 2 (some (.object "Thumbreel$Copy")) (rmT 1 1 6) [va_rf (some o), .int i] (fun v S' => ∃ j, j < nc ∧ i = nI j ∧ v = some (va_rf (some (cp j))) ∧ S' = S) (fun E => E = eIO ∧ ¬ ixo i nc) := by
  refine MT_of (by decide +kernel) hl rfl (Nat.le_of_ble_eq_true rfl) (fun Z hC hzl hnm hT hQ => ?_)
  change J G Z S 0 0 0 [some (va_rf (some o)), some (.int i)] []
  have hzs : (zl Z).stackTraces = false := by rw [hzl]; exact hl
  refine r_iload_n hC dX7_copyNumbered_0 rfl rfl ?_
  refine r_aload_n hC dX7_copyNumbered_1 rfl rfl ?_
  refine r_getR  hC fl_X7_263 dX7_copyNumbered_2 (ko) (rt) ?_
  refine r_cV (as := []) hC (c_size hzs hb.1) cs_Jx4a65c_size_8abf5 q_201 q_202 q_203 (hb.1) (by decide) rfl dX7_copyNumbered_5 rfl rfl ⟨Nat.le_of_ble_eq_true rfl, Nat.le_of_ble_eq_true rfl⟩ (Nat.le_of_ble_eq_true rfl) ⟨Nat.le_of_ble_eq_true rfl, Nat.le_of_ble_eq_true rfl⟩ (fun v5 S5 p5 => ?_) (fun _ x => x.elim)
  obtain ⟨rfl, e5⟩ := p5
  rw [e5, hb.2.1]
  refine r_cS (as := [.int i, .int (nI nc)]) hC (c_checkIndex hzs i (by omega)) cs_X7_checkIndex q_412 q_413 dX7_copyNumbered_8 rfl rfl ⟨Nat.le_of_ble_eq_true rfl, Nat.le_of_ble_eq_true rfl⟩ (Nat.le_of_ble_eq_true rfl) ⟨Nat.le_of_ble_eq_true rfl, Nat.le_of_ble_eq_true rfl⟩ (fun v8 S8 p8 => ?_) (fun E8 x8 => ?_)
  · obtain ⟨rfl, e8, j, hj, rfl⟩ := p8
    rw [e8]
    refine r_aload_n hC dX7_copyNumbered_11 rfl rfl ?_
    refine r_getR  hC fl_X7_263 dX7_copyNumbered_12 (ko) (rt) ?_
    refine r_iload_n hC dX7_copyNumbered_15 rfl rfl ?_
    refine r_cV (as := [.int (nI j)]) hC (c_get hzs hb hj (by omega)) cs_Jx4a65c_get_915e3 q_205 q_206 q_207 (hb.1) (by decide) rfl dX7_copyNumbered_16 rfl rfl ⟨Nat.le_of_ble_eq_true rfl, Nat.le_of_ble_eq_true rfl⟩ (Nat.le_of_ble_eq_true rfl) ⟨Nat.le_of_ble_eq_true rfl, Nat.le_of_ble_eq_true rfl⟩ (fun v16 S16 p16 => ?_) (fun _ x => x.elim)
    obtain ⟨rfl, e16⟩ := p16
    rw [e16]
    refine r_cast hC q_849 dX7_copyNumbered_19 (hb.2.2.choose_spec.2.2 j hj) (by decide) rfl ?_
    refine r_aret hC hQ rfl (by first | exact Or.inl ⟨_, rfl⟩ | exact Or.inr ⟨_, rfl⟩) dX7_copyNumbered_22 (Nat.le_of_ble_eq_true rfl) (Nat.le_of_ble_eq_true rfl) ?_
    exact ⟨j, hj, rfl, rfl, rfl⟩
  · exact r_out hC hQ hT (Nat.le_of_ble_eq_true rfl) (Nat.le_of_ble_eq_true rfl) x8
end UtilA

