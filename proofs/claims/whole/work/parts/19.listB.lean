/-! ===== ArrayList: made, grown, added to ===== -/
abbrev rmB (f : Nat) : Room := { frames := f, cells := 1, slots := 100, locals := 40 * f }
theorem isList.ex {G : GG} {S S' : PS} {a n kd : Nat} {el : Nat → Nat} {XI XR : Nat → Nat → Prop} {XA XB : Nat → Prop} (h : isList G S a n kd el) (hx : Ex S S' XI XR XA XB) (h1 : ¬ XI 290 a) (h2 : ¬ XR 289 a) (h3 : ∀ arr, pR S 289 a = some arr → ¬ XB arr) : isList G S' a n kd el := by
  obtain ⟨ka, hn, arr, ra, harr, hel⟩ := h
  obtain ⟨b1, b2, b3, b4, b5, b6, b7, b8⟩ := hx a ka.1
  refine ⟨hx.kd ka, (b4 290 h1).trans hn, arr, (b5 289 h2).trans ra, ?_, fun i hi => hx.kd (hel i hi)⟩
  rcases harr with h | ⟨kr, q1, q2, q3, q4⟩
  · exact Or.inl h
  · obtain ⟨c1, c2, c3, c4, c5, c6, c7, c8⟩ := hx arr kr.1
    exact Or.inr ⟨hx.kd kr, by rw [c3]; exact q1, by rw [c3]; exact q2, by rw [c3]; exact q3, fun i hi => by rw [c7 (h3 arr ra)]; exact q4 i hi⟩
section ListB
variable {l : Launch} {G : GG} {S : PS} {a n kd : Nat} {el : Nat → Nat}
set_option maxRecDepth 100000 in
theorem c_ACinit (hl : l.stackTraces = false) (x : Nat) :
    MT l G S yJxa1e45_init_da8c8 cJxa1e45_init_da8c8 1 none (rmA 1) [va_rf (some x)] (fun v S' => v = none ∧ S' = S) (fun _ => False) := by
  refine MT_of (by decide +kernel) hl rfl (Nat.le_of_ble_eq_true rfl) (fun Z hC _ hnm hT hQ => ?_)
  change J G Z S 0 0 0 [some (va_rf (some x))] []
  refine r_aload_n hC dJxa1e45_init_da8c8_0 rfl rfl ?_
  refine r_objInit hC q_117 q_104 q_105 dJxa1e45_init_da8c8_1 (Nat.le_of_ble_eq_true rfl) (Nat.le_of_ble_eq_true rfl) ?_
  refine r_vret hC hQ rfl dJxa1e45_init_da8c8_4 (Nat.le_of_ble_eq_true rfl) (Nat.le_of_ble_eq_true rfl) ?_
  exact ⟨rfl, rfl⟩
set_option maxRecDepth 100000 in
theorem c_ALinit (hl : l.stackTraces = false) (ka : KD S a 9) :
    MT l G S yJxc12de_init_da8c8 cJxc12de_init_da8c8 1 none (rmA 2) [va_rf (some a)] (fun v S' => v = none ∧ S' = sI S 288 a 0) (fun _ => False) := by
  refine MT_of (by decide +kernel) hl rfl (Nat.le_of_ble_eq_true rfl) (fun Z hC hzl hnm hT hQ => ?_)
  change J G Z S 0 0 0 [some (va_rf (some a))] []
  have hzs : (zl Z).stackTraces = false := by rw [hzl]; exact hl
  refine r_aload_n hC dJxc12de_init_da8c8_0 rfl rfl ?_
  refine r_cI (as := []) hC (c_ACinit hzs a) cs_Jxa1e45_init_da8c8 q_114 q_115 rfl dJxc12de_init_da8c8_1 rfl rfl ⟨Nat.le_of_ble_eq_true rfl, Nat.le_of_ble_eq_true rfl⟩ (Nat.le_of_ble_eq_true rfl) ⟨Nat.le_of_ble_eq_true rfl, Nat.le_of_ble_eq_true rfl⟩ (fun v1 S1 p1 => ?_) (fun _ x => x.elim)
  obtain ⟨rfl, e1⟩ := p1
  rw [e1]
  refine r_aload_n hC dJxc12de_init_da8c8_4 rfl rfl ?_
  refine r_iconst (v := nI 0) hC dJxc12de_init_da8c8_5 (by decide) ?_
  refine r_putI hC fl_Jxc12de_7 rfl (by decide) dJxc12de_init_da8c8_6 (ka) (fun h => absurd h (by decide)) ?_
  refine r_vret hC hQ rfl dJxc12de_init_da8c8_9 (Nat.le_of_ble_eq_true rfl) (Nat.le_of_ble_eq_true rfl) ?_
  exact ⟨rfl, rfl⟩
set_option maxRecDepth 100000 in
theorem c_listInit (hl : l.stackTraces = false) (ka : KD S a 9) :
    MT l G S yJx4a65c_init_da8c8 cJx4a65c_init_da8c8 1 none (rmA 3) [va_rf (some a)] (fun v S' => v = none ∧ S' = sR (sI S 288 a 0) 289 a (some (gE G))) (fun _ => False) := by
  refine MT_of (by decide +kernel) hl rfl (Nat.le_of_ble_eq_true rfl) (fun Z hC hzl hnm hT hQ => ?_)
  change J G Z S 0 0 0 [some (va_rf (some a))] []
  have hzs : (zl Z).stackTraces = false := by rw [hzl]; exact hl
  refine r_aload_n hC dJx4a65c_init_da8c8_0 rfl rfl ?_
  refine r_cI (as := []) hC (c_ALinit hzs ka) cs_Jxc12de_init_da8c8 q_111 q_112 rfl dJx4a65c_init_da8c8_1 rfl rfl ⟨Nat.le_of_ble_eq_true rfl, Nat.le_of_ble_eq_true rfl⟩ (Nat.le_of_ble_eq_true rfl) ⟨Nat.le_of_ble_eq_true rfl, Nat.le_of_ble_eq_true rfl⟩ (fun v1 S1 p1 => ?_) (fun _ x => x.elim)
  obtain ⟨rfl, e1⟩ := p1
  rw [e1]
  refine r_aload_n hC dJx4a65c_init_da8c8_4 rfl rfl ?_
  refine r_getsE hC q_118 dJx4a65c_init_da8c8_5 ?_
  refine r_putR hC fl_Jx4a65c_9 dJx4a65c_init_da8c8_8 (ka) ?_
  refine r_vret hC hQ rfl dJx4a65c_init_da8c8_11 (Nat.le_of_ble_eq_true rfl) (Nat.le_of_ble_eq_true rfl) ?_
  exact ⟨rfl, rfl⟩
set_option maxRecDepth 100000 in
theorem c_newLength (hl : l.stackTraces = false) (h10 : 10 ≤ n) (h66 : n ≤ 66) :
    MT l G S yJ8_newLength_cabcc cJ8_newLength_cabcc 4 (some .int) (rmA 1) [.int (nI n), .int (nI 1), .int (nI (n / 2))] (fun v S' => v = some (.int (nI (n + n / 2))) ∧ S' = S) (fun _ => False) := by
  refine MT_of (by decide +kernel) hl rfl (Nat.le_of_ble_eq_true rfl) (fun Z hC hzl hnm hT hQ => ?_)
  change J G Z S 0 0 0 [some (.int (nI n)), some (.int (nI 1)), some (.int (nI (n / 2))), none] []
  refine r_iload_n hC dJ8_newLength_cabcc_0 rfl rfl ?_
  refine r_iload_n hC dJ8_newLength_cabcc_1 rfl rfl ?_
  refine r_iload_n hC dJ8_newLength_cabcc_2 rfl rfl ?_
  refine r_mmax hC q_357 q_358 q_86 q_359 dJ8_newLength_cabcc_3 (Nat.le_of_ble_eq_true rfl) (Nat.le_of_ble_eq_true rfl) (Nat.le_of_ble_eq_true rfl) (Nat.le_of_ble_eq_true rfl) ?_
  rw [if_pos (nI_lt (show 1 < n / 2 by omega) (by omega))]
  refine r_iadd hC dJ8_newLength_cabcc_6 ?_
  refine r_istore_n hC dJ8_newLength_cabcc_7 rfl (by decide) ?_
  refine r_iconst (v := nI 0) hC dJ8_newLength_cabcc_8 (by decide) ?_
  refine r_iload_n hC dJ8_newLength_cabcc_9 rfl rfl ?_
  refine r_icge (tgt := 21) hC dJ8_newLength_cabcc_10 (by decide) (fun h10 => ?_) (fun h10 => ?_)
  · rw [nI_add] at h10
    exact absurd ((nI_leI (by omega) (by decide)).mp h10) (by omega)
  · skip
    refine r_iload_n hC dJ8_newLength_cabcc_13 rfl rfl ?_
    refine r_ldc hC q_360 dJ8_newLength_cabcc_14 ?_
    refine r_icgt (tgt := 21) hC dJ8_newLength_cabcc_16 (by decide) (fun h16 => ?_) (fun h16 => ?_)
    · rw [nI_add] at h16
      have := (nI_ltI (a := 2147483639) (by decide) (by omega)).mp h16
      omega
    · skip
      refine r_iload_n hC dJ8_newLength_cabcc_19 rfl rfl ?_
      refine r_iret hC hQ rfl dJ8_newLength_cabcc_20 (Nat.le_of_ble_eq_true rfl) (Nat.le_of_ble_eq_true rfl) ?_
      exact ⟨by rw [nI_add], rfl⟩
set_option maxRecDepth 100000 in
set_option maxHeartbeats 1000000 in
theorem c_copyOf2 (hl : l.stackTraces = false) {arr m : Nat} (kr : KD S arr 13) (hm : pN S arr ≤ m) (h100 : m ≤ 100) (hel : ∀ i, i < pN S arr → ∀ y, pB S arr i = some y → ∃ kd r, kd < 10 ∧ KD S y kd ∧ cls[kd]? = some r ∧ Cond.castable r.1 "java/lang/Object" ∈ TBL) :
    MT l G S yJ7_copyOf_6403c cJ7_copyOf_6403c 4 (some (.array (.object "java/lang/Object"))) (rmB 1) [va_rf (some arr), .int (nI m), va_rf (some (gS G 99))]
      (fun v S' => ∃ q g, v = some (va_rf (some q)) ∧ q ∉ pL S ∧ S' = sB (sW S q 13 m) q g ∧ ∀ i, i < pN S arr → g i = pB S arr i) (fun _ => False) := by
  refine MT_of (by decide +kernel) hl rfl (Nat.le_of_ble_eq_true rfl) (fun Z hC hzl hnm hT hQ => ?_)
  change J G Z S 0 0 0 [some (va_rf (some arr)), some (.int (nI m)), some (va_rf (some (gS G 99))), none] []
  refine r_aload_n hC dJ7_copyOf_6403c_0 rfl rfl ?_
  refine r_ldcM hC q_388 dJ7_copyOf_6403c_1 ?_
  refine r_acmpne (tgt := 13) hC dJ7_copyOf_6403c_3 (by decide) (fun h3 => ?_) (fun h3 => ?_)
  · exact absurd rfl h3
  · skip
    refine r_iload_n hC dJ7_copyOf_6403c_6 rfl rfl ?_
    refine r_newB hC q_390 (rfl) (by first | decide | omega) dJ7_copyOf_6403c_7 (by first | exact Nat.le_of_ble_eq_true rfl | (show 0 + m ≤ 100; omega)) (by first | exact Nat.le_of_ble_eq_true rfl | (show 0 + m ≤ 100; omega)) (fun q7 hq7 hg7 => ?_)
    have kr1 : KD (sW S q7 13 m) arr 13 := kd_sW kr hq7
    have kq1 : KD (sW S q7 13 m) q7 13 := kd_newW
    have hne : arr ≠ q7 := fun e => hq7 (e ▸ kr.1)
    have nq : pN (sW S q7 13 m) q7 = m := va_up_self _ _ _
    have na : pN (sW S q7 13 m) arr = pN S arr := va_up_ne _ _ hne
    have ba : pB (sW S q7 13 m) arr = pB S arr := va_up_ne _ _ hne
    refine r_goto (tgt := 24) hC dJ7_copyOf_6403c_10 (by decide) ?_
    refine r_astore_n hC dJ7_copyOf_6403c_24 rfl (by decide) ?_
    refine r_aload_n hC dJ7_copyOf_6403c_25 rfl rfl ?_
    refine r_iconst (v := nI 0) hC dJ7_copyOf_6403c_26 (by decide) ?_
    refine r_aload_n hC dJ7_copyOf_6403c_27 rfl rfl ?_
    refine r_iconst (v := nI 0) hC dJ7_copyOf_6403c_28 (by decide) ?_
    refine r_aload_n hC dJ7_copyOf_6403c_29 rfl rfl ?_
    refine r_alen hC dJ7_copyOf_6403c_30 (kr1) (by decide) (by decide) (na) ?_
    refine r_iload_n hC dJ7_copyOf_6403c_31 rfl rfl ?_
    refine r_mmin hC q_391 q_392 q_86 q_393 dJ7_copyOf_6403c_32 (Nat.le_of_ble_eq_true rfl) (Nat.le_of_ble_eq_true rfl) (by first | exact Nat.le_of_ble_eq_true rfl | (show 0 + m ≤ 100; omega)) (by first | exact Nat.le_of_ble_eq_true rfl | (show 0 + m ≤ 100; omega)) ?_
    rw [if_neg (nI_nlt hm (by omega))]
    refine r_acopy hC q_394 q_396 q_395 q_88 dJ7_copyOf_6403c_35 kr1 kq1 (by rw [na]; exact Nat.le_refl _) (by rw [nq]; exact hm) (by omega) (fun i hi y hy => ?_) (Nat.le_of_ble_eq_true rfl) (Nat.le_of_ble_eq_true rfl) ?_
    · rw [ba] at hy
      obtain ⟨kd, r, r1, r2, r3⟩ := hel i hi y hy
      exact ⟨kd, r, r1, kd_sW r2 hq7, r3⟩
    · skip
      refine r_aload_n hC dJ7_copyOf_6403c_38 rfl rfl ?_
      refine r_aret hC hQ rfl (by first | exact Or.inl ⟨_, rfl⟩ | exact Or.inr ⟨_, rfl⟩) dJ7_copyOf_6403c_39 (by first | exact Nat.le_of_ble_eq_true rfl | (show 0 + m ≤ 100; omega)) (by first | exact Nat.le_of_ble_eq_true rfl | (show 0 + m ≤ 100; omega)) ?_
      exact ⟨q7, _, rfl, hq7, rfl, fun i hi => by rw [pk_cpy_in (Nat.zero_le i) (by omega), ba, Nat.zero_add, Nat.sub_zero]⟩
set_option maxRecDepth 100000 in
theorem c_copyOf1 (hl : l.stackTraces = false) {arr m : Nat} (kr : KD S arr 13) (hm : pN S arr ≤ m) (h100 : m ≤ 100) (hel : ∀ i, i < pN S arr → ∀ y, pB S arr i = some y → ∃ kd r, kd < 10 ∧ KD S y kd ∧ cls[kd]? = some r ∧ Cond.castable r.1 "java/lang/Object" ∈ TBL) :
    MT l G S yJ7_copyOf_1904c cJ7_copyOf_1904c 2 (some (.array (.object "java/lang/Object"))) (rmB 2) [va_rf (some arr), .int (nI m)]
      (fun v S' => ∃ q g, v = some (va_rf (some q)) ∧ q ∉ pL S ∧ S' = sB (sW S q 13 m) q g ∧ ∀ i, i < pN S arr → g i = pB S arr i) (fun _ => False) := by
  refine MT_of (by decide +kernel) hl rfl (Nat.le_of_ble_eq_true rfl) (fun Z hC hzl hnm hT hQ => ?_)
  change J G Z S 0 0 0 [some (va_rf (some arr)), some (.int (nI m))] []
  have hzs : (zl Z).stackTraces = false := by rw [hzl]; exact hl
  refine r_aload_n hC dJ7_copyOf_1904c_0 rfl rfl ?_
  refine r_iload_n hC dJ7_copyOf_1904c_1 rfl rfl ?_
  refine r_aload_n hC dJ7_copyOf_1904c_2 rfl rfl ?_
  refine r_getC hC q_367 q_1215 q_1214 q_368 q_384 dJ7_copyOf_1904c_3 kr (Nat.le_of_ble_eq_true rfl) (Nat.le_of_ble_eq_true rfl) ?_
  refine r_cS (as := [va_rf (some arr), .int (nI m), va_rf (some (gS G 99))]) hC (c_copyOf2 hzs kr hm h100 hel) cs_J7_copyOf_6403c q_385 q_386 dJ7_copyOf_1904c_6 rfl rfl ⟨Nat.le_of_ble_eq_true rfl, Nat.le_of_ble_eq_true rfl⟩ (Nat.le_of_ble_eq_true rfl) ⟨Nat.le_of_ble_eq_true rfl, Nat.le_of_ble_eq_true rfl⟩ (fun v6 S6 p6 => ?_) (fun _ x => x.elim)
  obtain ⟨q, g, rfl, h1, h2, h3⟩ := p6
  refine r_aret hC hQ rfl (by first | exact Or.inl ⟨_, rfl⟩ | exact Or.inr ⟨_, rfl⟩) dJ7_copyOf_1904c_9 (Nat.le_of_ble_eq_true rfl) (Nat.le_of_ble_eq_true rfl) ?_
  exact ⟨q, g, rfl, h1, h2, h3⟩
/-- what grow leaves: a new row with room for one more -/
def grown (G : GG) (S S' : PS) (a n : Nat) (el : Nat → Nat) (q : Nat) : Prop :=
  q ∉ pL S ∧ KD S' q 13 ∧ pR S' 289 a = some q ∧ 10 ≤ pN S' q ∧ pN S' q ≤ 100 ∧ n < pN S' q ∧ (∀ i, i < n → pB S' q i = some (el i)) ∧ Ex S S' (fun _ _ => False) (fun f y => y = a ∧ f = 289) (fun _ => False) (fun _ => False)
set_option maxRecDepth 100000 in
set_option maxHeartbeats 1000000 in
theorem c_grow1 (hl : l.stackTraces = false) (h : isList G S a n kd el) (h60 : n ≤ 60) (hfull : ∀ arr, pR S 289 a = some arr → KD S arr 13 → pN S arr = n) {r : vw_C} (h10 : kd < 10) (hr : cls[kd]? = some r) (hw : Cond.castable r.1 "java/lang/Object" ∈ TBL) :
    MT l G S yJx4a65c_grow_92f84 cJx4a65c_grow_92f84 4 (some (.array (.object "java/lang/Object"))) (rmB 3) [va_rf (some a), .int (nI (n + 1))] (fun v S' => ∃ q, v = some (va_rf (some q)) ∧ grown G S S' a n el q) (fun _ => False) := by
  obtain ⟨ka, hn, arr, ra, harr, helk⟩ := h
  refine MT_of (by decide +kernel) hl rfl (Nat.le_of_ble_eq_true rfl) (fun Z hC hzl hnm hT hQ => ?_)
  change J G Z S 0 0 0 [some (va_rf (some a)), some (.int (nI (n + 1))), none, none] []
  have hzs : (zl Z).stackTraces = false := by rw [hzl]; exact hl
  rcases harr with ⟨rfl, rfl⟩ | ⟨kr, n10, n100, nn, hel⟩
  · skip
    refine r_aload_n hC dJx4a65c_grow_92f84_0 rfl rfl ?_
    refine r_getR  hC fl_Jx4a65c_9 dJx4a65c_grow_92f84_1 (ka) (ra) ?_
    refine r_alenE hC dJx4a65c_grow_92f84_4 ?_
    refine r_istore_n hC dJx4a65c_grow_92f84_5 rfl (by decide) ?_
    refine r_iload_n hC dJx4a65c_grow_92f84_6 rfl rfl ?_
    refine r_ifgt (tgt := 20) hC dJx4a65c_grow_92f84_7 (by decide) (fun h7 => ?_) (fun h7 => ?_)
    · exact absurd h7 (by decide)
    · skip
      refine r_aload_n hC dJx4a65c_grow_92f84_10 rfl rfl ?_
      refine r_getR  hC fl_Jx4a65c_9 dJx4a65c_grow_92f84_11 (ka) (ra) ?_
      refine r_getsE hC q_118 dJx4a65c_grow_92f84_14 ?_
      refine r_acmpeq (tgt := 45) hC dJx4a65c_grow_92f84_17 (by decide) (fun h17 => ?_) (fun h17 => ?_)
      · skip
        refine r_aload_n hC dJx4a65c_grow_92f84_45 rfl rfl ?_
        refine r_bipush (v := nI 10) hC dJx4a65c_grow_92f84_46 (by decide) ?_
        refine r_iload_n hC dJx4a65c_grow_92f84_48 rfl rfl ?_
        refine r_mmax hC q_397 q_358 q_86 q_359 dJx4a65c_grow_92f84_49 (Nat.le_of_ble_eq_true rfl) (Nat.le_of_ble_eq_true rfl) (Nat.le_of_ble_eq_true rfl) (Nat.le_of_ble_eq_true rfl) ?_
        rw [if_neg (show ¬ nI 10 < nI (0 + 1) by decide)]
        refine r_newB hC q_398 (rfl) (by first | decide | omega) dJx4a65c_grow_92f84_52 (Nat.le_of_ble_eq_true rfl) (Nat.le_of_ble_eq_true rfl) (fun q52 hq52 hg52 => ?_)
        refine r_dup_x1 hC dJx4a65c_grow_92f84_55 rfl rfl ?_
        refine r_putR hC fl_Jx4a65c_9 dJx4a65c_grow_92f84_56 (kd_sW ka hq52) ?_
        refine r_aret hC hQ rfl (by first | exact Or.inl ⟨_, rfl⟩ | exact Or.inr ⟨_, rfl⟩) dJx4a65c_grow_92f84_59 (Nat.le_of_ble_eq_true rfl) (Nat.le_of_ble_eq_true rfl) ?_
        have hne : a ≠ q52 := fun e => hq52 (e ▸ ka.1)
        refine ⟨q52, rfl, hq52, kd_newW (m := 10), u2_s (pR (sW S q52 13 10)) 289 a _, ?_, ?_, ?_, fun i hi => absurd hi (by omega), ?_⟩
        · show 10 ≤ va_up _ _ _ _; rw [va_up_self]; decide
        · show va_up _ _ _ _ ≤ 100; rw [va_up_self]; decide
        · show 0 < va_up _ _ _ _; rw [va_up_self]; decide
        · exact Ex.tr (Ex.newW hq52) (Ex.putR ⟨rfl, rfl⟩)
      · exact absurd rfl h17
  · have hnarr := hfull arr ra kr
    refine r_aload_n hC dJx4a65c_grow_92f84_0 rfl rfl ?_
    refine r_getR  hC fl_Jx4a65c_9 dJx4a65c_grow_92f84_1 (ka) (ra) ?_
    refine r_alen hC dJx4a65c_grow_92f84_4 (kr) (by decide) (by decide) (hnarr) ?_
    refine r_istore_n hC dJx4a65c_grow_92f84_5 rfl (by decide) ?_
    refine r_iload_n hC dJx4a65c_grow_92f84_6 rfl rfl ?_
    refine r_ifgt (tgt := 20) hC dJx4a65c_grow_92f84_7 (by decide) (fun h7 => ?_) (fun h7 => ?_)
    · skip
      have es : nI (n + 1) - nI n = nI 1 := by rw [pk_sub (by omega)]; congr 1; omega
      refine r_iload_n hC dJx4a65c_grow_92f84_20 rfl rfl ?_
      refine r_iload_n hC dJx4a65c_grow_92f84_21 rfl rfl ?_
      refine r_iload_n hC dJx4a65c_grow_92f84_22 rfl rfl ?_
      refine r_isub hC dJx4a65c_grow_92f84_23 ?_
      refine r_iload_n hC dJx4a65c_grow_92f84_24 rfl rfl ?_
      refine r_iconst (v := nI 1) hC dJx4a65c_grow_92f84_25 (by decide) ?_
      rw [es]
      refine r_ishr1 hC dJx4a65c_grow_92f84_26 (by omega) ?_
      refine r_cS (as := [.int (nI n), .int (nI 1), .int (nI (n / 2))]) hC (c_newLength hzs (n := n) (by omega) (by omega)) cs_J8_newLength_cabcc q_354 q_355 dJx4a65c_grow_92f84_27 rfl rfl ⟨Nat.le_of_ble_eq_true rfl, Nat.le_of_ble_eq_true rfl⟩ (Nat.le_of_ble_eq_true rfl) ⟨Nat.le_of_ble_eq_true rfl, Nat.le_of_ble_eq_true rfl⟩ (fun v27 S27 p27 => ?_) (fun _ x => x.elim)
      obtain ⟨rfl, e27⟩ := p27
      rw [e27]
      refine r_istore_n hC dJx4a65c_grow_92f84_30 rfl (by decide) ?_
      refine r_aload_n hC dJx4a65c_grow_92f84_31 rfl rfl ?_
      refine r_aload_n hC dJx4a65c_grow_92f84_32 rfl rfl ?_
      refine r_getR  hC fl_Jx4a65c_9 dJx4a65c_grow_92f84_33 (ka) (ra) ?_
      refine r_iload_n hC dJx4a65c_grow_92f84_36 rfl rfl ?_
      refine r_cS (as := [va_rf (some arr), .int (nI (n + n / 2))]) hC (c_copyOf1 hzs (m := n + n / 2) kr (by omega) (by omega) (fun i hi y hy => by rw [hel i (by omega)] at hy; cases hy; exact ⟨kd, r, h10, helk i (by omega), hr, hw⟩)) cs_J7_copyOf_1904c q_364 q_365 dJx4a65c_grow_92f84_37 rfl rfl ⟨Nat.le_of_ble_eq_true rfl, Nat.le_of_ble_eq_true rfl⟩ (Nat.le_of_ble_eq_true rfl) ⟨Nat.le_of_ble_eq_true rfl, Nat.le_of_ble_eq_true rfl⟩ (fun v37 S37 p37 => ?_) (fun _ x => x.elim)
      obtain ⟨q, g, rfl, hq, e37, hg⟩ := p37
      rw [e37]
      refine r_dup_x1 hC dJx4a65c_grow_92f84_40 rfl rfl ?_
      refine r_putR hC fl_Jx4a65c_9 dJx4a65c_grow_92f84_41 (kd_sB (kd_sW ka hq)) ?_
      refine r_aret hC hQ rfl (by first | exact Or.inl ⟨_, rfl⟩ | exact Or.inr ⟨_, rfl⟩) dJx4a65c_grow_92f84_44 (Nat.le_of_ble_eq_true rfl) (Nat.le_of_ble_eq_true rfl) ?_
      have hne : a ≠ q := fun e => hq (e ▸ ka.1)
      refine ⟨q, rfl, hq, kd_newW (m := n + n / 2), u2_s (pR (sW S q 13 (n + n / 2))) 289 a _, ?_, ?_, ?_, fun i hi => ?_, ?_⟩
      · show 10 ≤ va_up _ _ _ _; rw [va_up_self]; omega
      · show va_up _ _ _ _ ≤ 100; rw [va_up_self]; omega
      · show n < va_up _ _ _ _; rw [va_up_self]; omega
      · have e : pB (sR (sB (sW S q 13 (n + n / 2)) q g) 289 a (some q)) q = g := va_up_self _ _ _
        rw [e, hg i (by omega), hel i hi]
      · exact ((Ex.newW hq).tB (Or.inr hq)).tR (Or.inl ⟨rfl, rfl⟩)
    · exact absurd (nI_lt (a := 0) (by omega) (by omega)) h7
set_option maxRecDepth 100000 in
theorem c_grow0 (hl : l.stackTraces = false) (h : isList G S a n kd el) (h60 : n ≤ 60) (hfull : ∀ arr, pR S 289 a = some arr → KD S arr 13 → pN S arr = n) {r : vw_C} (h10 : kd < 10) (hr : cls[kd]? = some r) (hw : Cond.castable r.1 "java/lang/Object" ∈ TBL) :
    MT l G S yJx4a65c_grow_d5877 cJx4a65c_grow_d5877 1 (some (.array (.object "java/lang/Object"))) (rmB 4) [va_rf (some a)] (fun v S' => ∃ q, v = some (va_rf (some q)) ∧ grown G S S' a n el q) (fun _ => False) := by
  refine MT_of (by decide +kernel) hl rfl (Nat.le_of_ble_eq_true rfl) (fun Z hC hzl hnm hT hQ => ?_)
  change J G Z S 0 0 0 [some (va_rf (some a))] []
  have hzs : (zl Z).stackTraces = false := by rw [hzl]; exact hl
  refine r_aload_n hC dJx4a65c_grow_d5877_0 rfl rfl ?_
  refine r_aload_n hC dJx4a65c_grow_d5877_1 rfl rfl ?_
  refine r_getI hC fl_Jx4a65c_48 rfl dJx4a65c_grow_d5877_2 (h.1) (h.2.1) ?_
  refine r_iconst (v := nI 1) hC dJx4a65c_grow_d5877_5 (by decide) ?_
  refine r_iadd hC dJx4a65c_grow_d5877_6 ?_
  rw [nI_add n 1]
  refine r_cV (as := [.int (nI (n + 1))]) hC (c_grow1 hzs h h60 hfull h10 hr hw) cs_Jx4a65c_grow_92f84 q_350 q_352 q_4 (h.1) (by decide) rfl dJx4a65c_grow_d5877_7 rfl rfl ⟨Nat.le_of_ble_eq_true rfl, Nat.le_of_ble_eq_true rfl⟩ (Nat.le_of_ble_eq_true rfl) ⟨Nat.le_of_ble_eq_true rfl, Nat.le_of_ble_eq_true rfl⟩ (fun v7 S7 p7 => ?_) (fun _ x => x.elim)
  obtain ⟨q, rfl, hg⟩ := p7
  refine r_aret hC hQ rfl (by first | exact Or.inl ⟨_, rfl⟩ | exact Or.inr ⟨_, rfl⟩) dJx4a65c_grow_d5877_10 (Nat.le_of_ble_eq_true rfl) (Nat.le_of_ble_eq_true rfl) ?_
  exact ⟨q, rfl, hg⟩
/-- what add leaves -/
def added (G : GG) (S S' : PS) (a n kd : Nat) (el : Nat → Nat) (x : Nat) : Prop :=
  isList G S' a (n + 1) kd (fun i => if i = n then x else el i) ∧ Ex S S' (fun f y => y = a ∧ (f = 288 ∨ f = 290)) (fun f y => y = a ∧ f = 289) (fun _ => False) (fun y => pR S 289 a = some y) ∧ ∀ arr, pR S' 289 a = some arr → pR S 289 a = some arr ∨ arr ∉ pL S
theorem put_added {arr x : Nat} {el : Nat → Nat} (ka : KD S a 9) (hn : n + 1 ≤ pN S arr) (kr : KD S arr 13) (ra : pR S 289 a = some arr) (n10 : 10 ≤ pN S arr) (n100 : pN S arr ≤ 100) (hel : ∀ i, i < n → pB S arr i = some (el i)) (hk : ∀ i, i < n → KD S (el i) kd) (kx : KD S x kd) :
    isList G (sI (sB S arr (va_up (pB S arr) n (some x))) 290 a (nI (n + 1))) a (n + 1) kd (fun i => if i = n then x else el i) := by
  refine ⟨ka, u2_s (pI S) 290 a _, arr, ra, Or.inr ⟨kr, n10, n100, hn, fun i hi => ?_⟩, fun i hi => ?_⟩
  · show va_up (pB S) arr (va_up (pB S arr) n (some x)) arr i = _
    rw [va_up_self]
    by_cases h : i = n
    · subst h; rw [va_up_self]; simp
    · rw [va_up_ne _ _ h]; simp only [if_neg h]; exact hel i (by omega)
  · by_cases h : i = n
    · simp only [if_pos h]; exact kx
    · simp only [if_neg h]; exact hk i (by omega)
set_option maxRecDepth 100000 in
set_option maxHeartbeats 1000000 in
theorem c_add3 (hl : l.stackTraces = false) (h : isList G S a n kd el) (h60 : n ≤ 60) {arr x : Nat} (ra : pR S 289 a = some arr) (kx : KD S x kd) {r : vw_C} (h10 : kd < 10) (hr : cls[kd]? = some r) (hw : Cond.castable r.1 "java/lang/Object" ∈ TBL) (hge : gE G ∉ pL S) :
    MT l G S yJx4a65c_add_72be8 cJx4a65c_add_72be8 4 none (rmB 5) [va_rf (some a), va_rf (some x), va_rf (some arr), .int (nI n)] (fun v S' => v = none ∧ added G S S' a n kd el x) (fun _ => False) := by
  obtain ⟨ka, hn, arr', ra', harr, helk⟩ := id h
  have ea : arr' = arr := Option.some.inj (ra'.symm.trans ra)
  subst ea
  refine MT_of (by decide +kernel) hl rfl (Nat.le_of_ble_eq_true rfl) (fun Z hC hzl hnm hT hQ => ?_)
  change J G Z S 0 0 0 [some (va_rf (some a)), some (va_rf (some x)), some (va_rf (some arr')), some (.int (nI n))] []
  have hzs : (zl Z).stackTraces = false := by rw [hzl]; exact hl
  -- behind grow: the row has room
  have put : ∀ (k m : Nat) (S1 : PS) (q : Nat), k ≤ 1 → m ≤ 100 → isList G S1 a n kd el → pR S1 289 a = some q → KD S1 q 13 → 10 ≤ pN S1 q → pN S1 q ≤ 100 → n < pN S1 q → KD S1 x kd → (∀ i, i < n → pB S1 q i = some (el i)) → (∀ i, i < n → KD S1 (el i) kd) → Ex S S1 (fun f y => y = a ∧ (f = 288 ∨ f = 290)) (fun f y => y = a ∧ f = 289) (fun _ => False) (fun y => pR S 289 a = some y) → (q ∈ pL S → pR S 289 a = some q) →
      J G Z S1 k m 11 [some (va_rf (some a)), some (va_rf (some x)), some (va_rf (some q)), some (.int (nI n))] [] := by
    intro k m S1 q hk1 hm1 hl1 r1 k1 g1 g2 g3 kx1 hel1 hk2 hx1 hq1
    refine r_aload_n hC dJx4a65c_add_72be8_11 rfl rfl ?_
    refine r_iload_n hC dJx4a65c_add_72be8_12 rfl rfl ?_
    refine r_aload_n hC dJx4a65c_add_72be8_13 rfl rfl ?_
    refine r_aastO hC dJx4a65c_add_72be8_14 k1 rfl g3 (by omega) kx1 h10 hr hw ?_
    refine r_aload_n hC dJx4a65c_add_72be8_15 rfl rfl ?_
    refine r_iload_n hC dJx4a65c_add_72be8_16 rfl rfl ?_
    refine r_iconst (v := nI 1) hC dJx4a65c_add_72be8_17 (by decide) ?_
    refine r_iadd hC dJx4a65c_add_72be8_18 ?_
    refine r_putI hC fl_Jx4a65c_48 rfl (by decide) dJx4a65c_add_72be8_19 (hl1.1) (fun h => absurd h (by decide)) ?_
    refine r_vret hC hQ rfl dJx4a65c_add_72be8_22 (by first | exact hk1 | exact hm1) (by first | exact hk1 | exact hm1) ?_
    rw [nI_add n 1]
    refine ⟨rfl, put_added hl1.1 g3 k1 r1 g1 g2 hel1 hk2 kx1, (hx1.tB ?_).tI (Or.inl ⟨rfl, Or.inr rfl⟩), fun ar e => ?_⟩
    · by_cases hq : q ∈ pL S
      · exact Or.inl (hq1 hq)
      · exact Or.inr hq
    · have e2 : ar = q := Option.some.inj (e.symm.trans r1)
      subst e2
      by_cases hq : ar ∈ pL S
      · exact Or.inl (hq1 hq)
      · exact Or.inr hq
  have viaGrow : (∀ arr, pR S 289 a = some arr → KD S arr 13 → pN S arr = n) → J G Z S 0 0 6 [some (va_rf (some a)), some (va_rf (some x)), some (va_rf (some arr')), some (.int (nI n))] [] := by
    intro hfull
    refine r_aload_n hC dJx4a65c_add_72be8_6 rfl rfl ?_
    refine r_cV (as := []) hC (c_grow0 hzs h h60 hfull h10 hr hw) cs_Jx4a65c_grow_d5877 q_346 q_348 q_3 (ka) (by decide) rfl dJx4a65c_add_72be8_7 rfl rfl ⟨Nat.le_of_ble_eq_true rfl, Nat.le_of_ble_eq_true rfl⟩ (Nat.le_of_ble_eq_true rfl) ⟨Nat.le_of_ble_eq_true rfl, Nat.le_of_ble_eq_true rfl⟩ (fun v7 S7 p7 => ?_) (fun _ x => x.elim)
    obtain ⟨q, rfl, hq, gk, gr, g1, g2, g3, gel, gx⟩ := p7
    refine r_astore_n hC dJx4a65c_add_72be8_10 rfl (by decide) ?_
    refine put _ _ _ q (Nat.le_refl 1) (Nat.le_refl 100) ⟨gx.kd ka, ((gx a ka.1).2.2.2.1 290 (fun z => z)).trans hn, q, gr, Or.inr ⟨gk, g1, g2, Nat.le_of_lt g3, gel⟩, fun i hi => gx.kd (helk i hi)⟩ gr gk g1 g2 g3 (gx.kd kx) gel (fun i hi => gx.kd (helk i hi)) (gx.mono (fun _ _ z => z.elim) (fun _ _ z => z) (fun _ z => z) (fun _ z => z.elim)) (fun z => absurd z hq)
  rcases harr with ⟨rfl, rfl⟩ | ⟨kr, n10, n100, nn, hel⟩
  · skip
    refine r_iload_n hC dJx4a65c_add_72be8_0 rfl rfl ?_
    refine r_aload_n hC dJx4a65c_add_72be8_1 rfl rfl ?_
    refine r_alenE hC dJx4a65c_add_72be8_2 ?_
    refine r_icne (tgt := 11) hC dJx4a65c_add_72be8_3 (by decide) (fun h3 => ?_) (fun h3 => ?_)
    · exact absurd rfl h3
    · refine viaGrow (fun arr ra2 k2 => ?_)
      have e : arr = gE G := Option.some.inj (ra2.symm.trans ra)
      subst e
      exact absurd k2.1 hge
  · skip
    refine r_iload_n hC dJx4a65c_add_72be8_0 rfl rfl ?_
    refine r_aload_n hC dJx4a65c_add_72be8_1 rfl rfl ?_
    refine r_alen hC dJx4a65c_add_72be8_2 (kr) (by decide) (by decide) (rfl) ?_
    refine r_icne (tgt := 11) hC dJx4a65c_add_72be8_3 (by decide) (fun h3 => ?_) (fun h3 => ?_)
    · have hne : pN S arr' ≠ n := fun z => h3 (by rw [z])
      exact put 0 0 S arr' (by decide) (by decide) h ra kr n10 n100 (by omega) kx hel helk Ex.rf (fun _ => ra)
    · have he : n = pN S arr' := (nI_eq (by omega) (by omega)).mp h3
      refine viaGrow (fun arr ra2 k2 => ?_)
      have e : arr = arr' := Option.some.inj (ra2.symm.trans ra)
      subst e
      exact he.symm
set_option maxRecDepth 100000 in
theorem c_add (hl : l.stackTraces = false) (h : isList G S a n kd el) (h60 : n ≤ 60) (hge : gE G ∉ pL S) {x : Nat} (kx : KD S x kd) {r : vw_C} (h10 : kd < 10) (hr : cls[kd]? = some r) (hw : Cond.castable r.1 "java/lang/Object" ∈ TBL) :
    MT l G S yJx4a65c_add_9ea2d cJx4a65c_add_9ea2d 2 (some .boolean) (rmB 6) [va_rf (some a), va_rf (some x)] (fun v S' => v = some (.int (nI 1)) ∧ added G S S' a n kd el x) (fun _ => False) := by
  obtain ⟨ka, hn, arr, ra, harr, helk⟩ := id h
  refine MT_of (by decide +kernel) hl rfl (Nat.le_of_ble_eq_true rfl) (fun Z hC hzl hnm hT hQ => ?_)
  change J G Z S 0 0 0 [some (va_rf (some a)), some (va_rf (some x))] []
  have hzs : (zl Z).stackTraces = false := by rw [hzl]; exact hl
  refine r_aload_n hC dJx4a65c_add_9ea2d_0 rfl rfl ?_
  refine r_dup hC dJx4a65c_add_9ea2d_1 rfl ?_
  refine r_getI hC fl_Jx4a65c_63 rfl dJx4a65c_add_9ea2d_2 (ka) (rfl) ?_
  refine r_iconst (v := nI 1) hC dJx4a65c_add_9ea2d_5 (by decide) ?_
  refine r_iadd hC dJx4a65c_add_9ea2d_6 ?_
  refine r_putI hC fl_Jx4a65c_63 rfl (by decide) dJx4a65c_add_9ea2d_7 (ka) (fun h => absurd h (by decide)) ?_
  refine r_aload_n hC dJx4a65c_add_9ea2d_10 rfl rfl ?_
  refine r_aload_n hC dJx4a65c_add_9ea2d_11 rfl rfl ?_
  refine r_aload_n hC dJx4a65c_add_9ea2d_12 rfl rfl ?_
  refine r_getR  hC fl_Jx4a65c_9 dJx4a65c_add_9ea2d_13 (ka) (ra) ?_
  refine r_aload_n hC dJx4a65c_add_9ea2d_16 rfl rfl ?_
  refine r_getI hC fl_Jx4a65c_48 rfl dJx4a65c_add_9ea2d_17 (ka) (hn) ?_
  have hx : ∀ m, Ex S (sI S 288 a m) (fun f y => y = a ∧ (f = 288 ∨ f = 290)) (fun f y => y = a ∧ f = 289) (fun _ => False) (fun y => pR S 289 a = some y) := fun m => Ex.putI ⟨rfl, Or.inl rfl⟩
  refine r_cV (as := [va_rf (some x), va_rf (some arr), .int (nI n)]) hC (c_add3 (x := x) hzs (show isList G (sI S 288 a (pI S 288 a + nI 1)) a n kd el from h) h60 ra kx h10 hr hw hge) cs_Jx4a65c_add_72be8 q_342 q_344 q_2 (ka) (by decide) rfl dJx4a65c_add_9ea2d_20 rfl rfl ⟨Nat.le_of_ble_eq_true rfl, Nat.le_of_ble_eq_true rfl⟩ (Nat.le_of_ble_eq_true rfl) ⟨Nat.le_of_ble_eq_true rfl, Nat.le_of_ble_eq_true rfl⟩ (fun v20 S20 p20 => ?_) (fun _ x => x.elim)
  obtain ⟨rfl, h1, h2, h3⟩ := p20
  refine r_iconst (v := nI 1) hC dJx4a65c_add_9ea2d_23 (by decide) ?_
  refine r_zret hC hQ rfl (by decide) dJx4a65c_add_9ea2d_24 (Nat.le_of_ble_eq_true rfl) (Nat.le_of_ble_eq_true rfl) ?_
  exact ⟨rfl, h1, (hx _).tr h2, h3⟩
end ListB

