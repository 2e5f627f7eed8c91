/-! ===== orders: the constructor, filling a sheet ===== -/
/-- a copy without leaves -/
def frC (S : PS) (c v : Nat) : Prop := KD S c 1 ∧ pR S 32 c = some v ∧ KD S v 12 ∧ pN S v = 43 ∧ (∀ f, pB S v f = none) ∧ pI S 33 c = 0 ∧ pI S 34 c = 0
theorem frC.ex {S S' : PS} {c v : Nat} {XI XR : Nat → Nat → Prop} {XA XB : Nat → Prop} (h : frC S c v) (hx : Ex S S' XI XR XA XB) (h1 : ¬ XI 33 c) (h2 : ¬ XI 34 c) (h3 : ¬ XR 32 c) (h4 : ¬ XB v) : frC S' c v := by
  obtain ⟨kc, rv, kv, nv, hB, i1, i2⟩ := h
  obtain ⟨b1, b2, b3, b4, b5, b6, b7, b8⟩ := hx c kc.1
  obtain ⟨c1, c2, c3, c4, c5, c6, c7, c8⟩ := hx v kv.1
  exact ⟨hx.kd kc, (b5 32 h3).trans rv, hx.kd kv, c3.trans nv, fun f => by rw [c7 h4]; exact hB f, (b4 33 h1).trans i1, (b4 34 h2).trans i2⟩
theorem frC.cp {S : PS} {c v : Nat} (h : frC S c v) : isCp S c v := by
  obtain ⟨kc, rv, kv, nv, hB, i1, i2⟩ := h
  exact ⟨kc, rv, kv, nv, ⟨fun f _ y hy => absurd (hy.symm.trans (hB f)) (by simp), Or.inl i1⟩⟩
abbrev x2 : Nat → Nat → Prop := fun _ _ => False
theorem Ex.trM {S S1 S2 : PS} {XI XR YI YR : Nat → Nat → Prop} {XA XB YA YB : Nat → Prop} (h1 : Ex S S1 XI XR XA XB) (h2 : Ex S1 S2 YI YR YA YB) (i : ∀ f y, y ∈ pL S → YI f y → XI f y) (r : ∀ f y, y ∈ pL S → YR f y → XR f y) (a : ∀ y, y ∈ pL S → YA y → XA y) (b : ∀ y, y ∈ pL S → YB y → XB y) : Ex S S2 XI XR XA XB := by
  intro y hy
  obtain ⟨a1, a2, a3, a4, a5, a6, a7, a8⟩ := h1 y hy
  obtain ⟨b1, b2, b3, b4, b5, b6, b7, b8⟩ := h2 y a1
  exact ⟨b1, b2.trans a2, b3.trans a3, fun f h => (b4 f (fun z => h (i f y hy z))).trans (a4 f h), fun f h => (b5 f (fun z => h (r f y hy z))).trans (a5 f h), fun h => (b6 (fun z => h (a y hy z))).trans (a6 h), fun h => (b7 (fun z => h (b y hy z))).trans (a7 h), b8.trans a8⟩
/-- a list's row is no row of leaves -/
theorem isList.arr {G : GG} {S : PS} {a n kd k v : Nat} {el : Nat → Nat} (h : isList G S a n kd el) (hg : gE G ∉ pL S) (hv : KD S v k) (hk : k ≠ 13) (e : pR S 289 a = some v) : False := by
  obtain ⟨-, -, arr, ra, harr, -⟩ := h
  have e2 : arr = v := Option.some.inj (ra.symm.trans e)
  subst e2
  rcases harr with ⟨-, h⟩ | ⟨h, -⟩
  · exact hg (h ▸ hv.1)
  · exact hk (hv.2.symm.trans h.2)
section OrderC
variable {l : Launch} {G : GG} {S : PS}
set_option maxRecDepth 100000 in
set_option maxHeartbeats 1000000 in
theorem c_Order_init (hl : l.stackTraces = false) {o bk n : Nat} (ko : KD S o 4) (kb : KD S bk 0) (h3 : n ≤ 3) (i : Int32) :
    MT l G S yX4_init cX4_init 5 none (rm3 7 10 500) [va_rf (some o), .int i, va_rf (some bk), .int (nI n)]
      (fun w S' => w = none ∧ ∃ ls cp lv, isOr G S' o bk ls n cp lv ∧ (∀ j, j < n → frC S' (cp j) (lv j) ∧ cp j ∉ pL S ∧ lv j ∉ pL S) ∧ pI S' 128 o = i ∧ ls ∉ pL S ∧ (∀ arr, pR S' 289 ls = some arr → arr ∉ pL S) ∧ Ex S S' (xO o) (xO o) x0 x0) (fun _ => False) := by
  refine MT_of (by decide +kernel) hl rfl (Nat.le_of_ble_eq_true rfl) (fun Z hC hzl hnm hT hQ => ?_)
  change J G Z S 0 0 0 [some (va_rf (some o)), some (.int i), some (va_rf (some bk)), some (.int (nI n)), none] []
  have hzs : (zl Z).stackTraces = false := by rw [hzl]; exact hl
  refine r_hge hC (fun hgS => ?_)
  refine r_aload_n hC dX4_init_0 rfl rfl ?_
  refine r_objInit hC q_549 q_104 q_105 dX4_init_1 (Nat.le_of_ble_eq_true rfl) (Nat.le_of_ble_eq_true rfl) ?_
  refine r_aload_n hC dX4_init_4 rfl rfl ?_
  refine r_new hC nw_X4_9 dX4_init_5 (Nat.le_of_ble_eq_true rfl) (Nat.le_of_ble_eq_true rfl) (fun q5 hq5 hg5 => ?_)
  refine r_dup hC dX4_init_8 rfl ?_
  refine r_cI (as := []) hC (c_listInit hzs kd_newO) cs_Jx4a65c_init_da8c8 q_551 q_109 rfl dX4_init_9 rfl rfl ⟨Nat.le_of_ble_eq_true rfl, Nat.le_of_ble_eq_true rfl⟩ (Nat.le_of_ble_eq_true rfl) ⟨Nat.le_of_ble_eq_true rfl, Nat.le_of_ble_eq_true rfl⟩ (fun v9 S9 p9 => ?_) (fun _ x => x.elim)
  obtain ⟨rfl, e9⟩ := p9
  subst e9
  have hoq : o ≠ q5 := fun e => hq5 (e ▸ ko.1)
  have k1 : KD (sO S q5 9) o 4 := kd_sO ko hq5
  have loop : ∀ (d j : Nat) (S1 : PS) (cp lv : Nat → Nat) (k m : Nat), j + d = n → k ≤ 1 + 3 * j → m ≤ 3 + 146 * j →
      KD S1 o 4 → pR S1 129 o = some bk → KD S1 bk 0 → pR S1 130 o = some q5 → isList G S1 q5 j 1 cp → (∀ i, i < j → frC S1 (cp i) (lv i) ∧ cp i ∉ pL S ∧ lv i ∉ pL S) → (∀ a b, a < j → b < j → lv a = lv b → a = b) → pI S1 128 o = i → (∀ arr, pR S1 289 q5 = some arr → arr ∉ pL S) → Ex S S1 (xO o) (xO o) x0 x0 →
      J G Z S1 k m 28 [some (va_rf (some o)), some (.int i), some (va_rf (some bk)), some (.int (nI n)), some (.int (nI j))] [] := by
    intro d
    induction d with
    | zero =>
      intro j S1 cp lv k m hj hk hm f1 f2 f3 f4 f5 f6 f7 f8 f9 f10
      have hj : j = n := by omega
      subst hj
      refine r_iload hC dX4_init_28 rfl ?_
      refine r_iload_n hC dX4_init_30 rfl rfl ?_
      refine r_icge (tgt := 55) hC dX4_init_31 (by decide) (fun h31 => ?_) (fun h31 => ?_)
      · skip
        refine r_vret hC hQ rfl dX4_init_55 (by dsimp only [rm3, rmB, rmA]; omega) (by dsimp only [rm3, rmB, rmA]; omega) ?_
        exact ⟨rfl, q5, cp, lv, ⟨f1, f2, f3, f4, f5, h3, fun a ha => (f6 a ha).1.cp, f7⟩, f6, f8, hq5, f9, f10⟩
      · exact absurd (nI_le (Nat.le_refl j) (by omega)) h31
    | succ d ih =>
      intro j S1 cp lv k m hj hk hm f1 f2 f3 f4 f5 f6 f7 f8 f9 f10
      refine r_hge hC (fun hg1 => ?_)
      refine r_iload hC dX4_init_28 rfl ?_
      refine r_iload_n hC dX4_init_30 rfl rfl ?_
      refine r_icge (tgt := 55) hC dX4_init_31 (by decide) (fun h31 => ?_) (fun h31 => ?_)
      · exact absurd ((nI_leI (by omega) (by omega)).mp h31) (by omega)
      · skip
        refine r_aload_n hC dX4_init_34 rfl rfl ?_
        refine r_getR  hC fl_X4_12 dX4_init_35 (f1) (f4) ?_
        refine r_new hC nw_X4_26 dX4_init_38 (by dsimp only [rm3, rmB, rmA]; omega) (by dsimp only [rm3, rmB, rmA]; omega) (fun q38 hq38 hg38 => ?_)
        refine r_dup hC dX4_init_41 rfl ?_
        refine r_cIN (as := []) hC (c_Copy_init hzs kd_newO) cs_X1_init q_552 q_553 rfl dX4_init_42 rfl rfl ⟨Nat.le_of_ble_eq_true rfl, Nat.le_of_ble_eq_true rfl⟩ (Nat.le_of_ble_eq_true rfl) ⟨by dsimp only [rm3, rmB, rmA]; omega, by dsimp only [rm3, rmB, rmA]; omega⟩ (fun v42 S42 p42 => ?_) (fun _ x => x.elim)
        obtain ⟨rfl, v, hv, hcp, hnone, hi33, hi34, hex⟩ := p42
        have hvS1 := nin_W hv
        have hx1 : Ex S1 S42 x2 x2 x0 x0 := Ex.trM (Ex.newO hq38) hex (fun f y hy e => hq38 (e ▸ hy)) (fun f y hy e => hq38 (e ▸ hy)) (fun _ _ h => h) (fun _ _ h => h)
        have hfr : frC S42 q38 v := ⟨hcp.1, hcp.2.1, hcp.2.2.1, hcp.2.2.2.1, hnone, hi33, hi34⟩
        have hl42 : isList G S42 q5 j 1 cp := f5.ex hx1 (fun z => z) (fun z => z) (fun _ _ z => z)
        refine r_hge hC (fun hg42 => ?_)
        refine r_cV (as := [va_rf (some q38)]) hC (c_add hzs hl42 (by omega) hg42 hcp.1 (r := (RX1, TX1, 3)) (by decide) rfl q_1208) cs_Jx4a65c_add_9ea2d q_572 q_339 q_340 (hl42.1) (by decide) rfl dX4_init_45 rfl rfl ⟨Nat.le_of_ble_eq_true rfl, Nat.le_of_ble_eq_true rfl⟩ (Nat.le_of_ble_eq_true rfl) ⟨by dsimp only [rm3, rmB, rmA]; omega, by dsimp only [rm3, rmB, rmA]; omega⟩ (fun v45 S45 p45 => ?_) (fun _ x => x.elim)
        obtain ⟨rfl, ha1, ha2, ha3⟩ := p45
        refine r_pop hC dX4_init_48 rfl ?_
        refine r_iinc hC dX4_init_49 rfl (ii1 _) ?_
        refine r_goto (tgt := 28) hC dX4_init_52 (by decide) ?_
        have hxx : Ex S1 S45 (fun f y => y = q5 ∧ (f = 288 ∨ f = 290)) (fun f y => y = q5 ∧ f = 289) x0 (fun y => pR S42 289 q5 = some y) := Ex.trM (hx1.mono (fun _ _ z => z.elim) (fun _ _ z => z.elim) (fun _ z => z) (fun _ z => z.elim)) ha2 (fun _ _ _ z => z) (fun _ _ _ z => z) (fun _ _ z => z) (fun _ _ z => z)
        have r42 : pR S42 289 q5 = pR S1 289 q5 := (hx1 q5 f5.1.1).2.2.2.2.1 289 (fun z => z)
        have ho := hxx o f1.1
        refine ih (j + 1) S45 (fun a => if a = j then q38 else cp a) (fun a => if a = j then v else lv a) _ _ (by omega) (by show _ ≤ _; dsimp only [rm3, rmB]; omega) (by show _ ≤ _; dsimp only [rm3, rmB]; omega) (hxx.kd f1) ((ho.2.2.2.2.1 129 (fun z => absurd z.2 (by decide))).trans f2) (hxx.kd f3) ((ho.2.2.2.2.1 130 (fun z => absurd z.2 (by decide))).trans f4) ha1 (fun a ha => ?_) (fun a b ha hb e => ?_) ((ho.2.2.2.1 128 (fun z => absurd z.2 (by decide))).trans f8) (fun arr harr => ?_) ?_
        · by_cases haj : a = j
          · simp only [if_pos haj]
            refine ⟨hfr.ex ha2 (fun z => absurd z.2 (by decide)) (fun z => absurd z.2 (by decide)) (fun z => absurd z.2 (by decide)) (fun z => hl42.arr hg42 hfr.2.2.1 (by decide) z), f10.nin hq38, f10.nin hvS1.1⟩
          · simp only [if_neg haj]
            obtain ⟨g1, g2, g3⟩ := f6 a (by omega)
            exact ⟨(g1.ex hxx (fun z => absurd z.2 (by decide)) (fun z => absurd z.2 (by decide)) (fun z => absurd z.2 (by decide)) (fun z => hl42.arr hg42 (hx1.kd g1.2.2.1) (by decide) z)), g2, g3⟩
        · by_cases haj : a = j <;> by_cases hbj : b = j
          · rw [haj, hbj]
          · simp only [if_pos haj, if_neg hbj] at e
            exact absurd (e ▸ (f6 b (by omega)).1.2.2.1.1) hvS1.1
          · simp only [if_neg haj, if_pos hbj] at e
            exact absurd (e ▸ (f6 a (by omega)).1.2.2.1.1) hvS1.1
          · simp only [if_neg haj, if_neg hbj] at e
            exact f7 a b (by omega) (by omega) e
        · rcases ha3 arr harr with h | h
          · exact f9 arr (r42 ▸ h)
          · exact f10.nin (hx1.nin h)
        · refine f10.trM hxx (fun f y hy z => absurd (z.1 ▸ hy) hq5) (fun f y hy z => absurd (z.1 ▸ hy) hq5) (fun _ _ z => z) (fun y hy z => absurd hy (f9 y (r42 ▸ z)))
  have ra : ∀ f, f ≠ 130 → True := fun _ _ => trivial
  refine r_putFR hC hnm fl_X4_12 rfl dX4_init_12 (k1) ?_
  refine r_aload_n hC dX4_init_15 rfl rfl ?_
  refine r_iload_n hC dX4_init_16 rfl rfl ?_
  refine r_putFI hC hnm fl_X4_18 rfl rfl (by decide) dX4_init_17 (k1) (fun h => absurd h (by decide)) ?_
  refine r_aload_n hC dX4_init_20 rfl rfl ?_
  refine r_aload_n hC dX4_init_21 rfl rfl ?_
  refine r_putFR hC hnm fl_X4_22 rfl dX4_init_22 (k1) ?_
  refine r_iconst (v := nI 0) hC dX4_init_25 (by decide) ?_
  refine r_istore hC dX4_init_26 (by decide) ?_
  refine loop n 0 _ (fun _ => 0) (fun _ => 0) _ _ (by omega) (by decide) (by decide) k1 (R_s _ _ _ _) (kd_sO kb hq5) ?_ ?_ (fun a ha => absurd ha (by omega)) (fun a b ha => absurd ha (by omega)) ?_ (fun arr harr => ?_) ?_
  · simp [sI, sR, sO, u2, pR]
  · refine ⟨kd_newO, ?_, gE G, ?_, Or.inl ⟨rfl, rfl⟩, fun a ha => absurd ha (by omega)⟩
    · simp [sI, sR, sO, u2, pI]
      rfl
    · simp [sI, sR, sO, u2, pR, hoq]
  · simp [sI, sR, sO, u2, pI]
  · have : pR (sR (sI (sR (sR (sI (sO S q5 9) 288 q5 0) 289 q5 (some (gE G))) 130 o (some q5)) 128 o i) 129 o (some bk)) 289 q5 = some (gE G) := by simp [sI, sR, sO, u2, pR]
    have e : arr = gE G := Option.some.inj (harr.symm.trans this)
    rw [e]
    exact hgS
  · refine Ex.tR ?_ (Or.inl rfl)
    refine Ex.tI ?_ (Or.inl rfl)
    refine Ex.tR ?_ (Or.inl rfl)
    refine Ex.tR ?_ (Or.inr hq5)
    refine Ex.tI ?_ (Or.inr hq5)
    refine Ex.tO ?_ hq5
    exact Ex.rf
end OrderC

