/-! ===== an order is taken ===== -/
abbrev rmU (k n : Nat) : Room := { frames := 11, cells := k, slots := n, locals := 400 }
theorem rgb_13 {x : Int32} (h1 : nI 1 ≤ x) (h2 : x ≤ nI 3) : ∃ n, 1 ≤ n ∧ n ≤ 3 ∧ x = nI n := by
  obtain ⟨j, hj, rfl⟩ := rgb_n (by decide) (Int32.le_trans (show nI 0 ≤ nI 1 by decide) h1) h2
  exact ⟨j, (nI_leI (by omega) (by omega)).mp h1, hj, rfl⟩
/-- the marks of what a new order brings -/
def mkO (S : PS) (no : Nat) (cp lv : Nat → Nat) : Nat → Nat := fun y => if pK S y = 9 then 600 + no else if pK S y = 13 then 700 + no else if pK S y = 1 then 800 + 3 * no + ix3 cp y else 900 + 3 * no + ix3 lv y
section OrderP
variable {l : Launch} {G : GG} {S : PS} {tg : TG} {W : WT} {A : AS} {t : Nat}
set_option maxHeartbeats 2000000 in
/-- the class's state behind a new order: first what the order itself brings (S1), then its place in the list (S2) -/
theorem CL.nwo {S1 S2 : PS} {q ls b n : Nat} {cp lv : Nat → Nat} (h : CL G S tg W A t) (h5 : aNo A < 5) (hb : b < aNb A) (n1 : 1 ≤ n) (n3 : n ≤ 3)
    (hq : q ∉ pL S) (hx1 : Ex S S1 x2 x2 x0 x0) (ho : isOr G S1 q (wBk W b) ls n cp lv) (hfr : ∀ c, c < n → frC S1 (cp c) (lv c) ∧ cp c ∉ pL S ∧ lv c ∉ pL S) (i128 : pI S1 128 q = nI (aNo A)) (nls : ls ∉ pL S) (narr : ∀ arr, pR S1 289 ls = some arr → arr ∉ pL S)
    (hg1 : gE G ∉ pL S1) (hadd : added G S1 S2 (wLo W) (aNo A) 4 (wOo W) q) (hg2 : gE G ∉ pL S2) :
    ∃ tg' W', CL G S2 tg' W' (newO A b n) t ∧ FrC tg S S2 tg' := by
  obtain ⟨⟨hv, hbk, hor, hsh, hr⟩, hF⟩ := h
  obtain ⟨tg1, etg1⟩ : ∃ z, z = tgx S tg (mkO S1 (aNo A) cp lv) := ⟨_, rfl⟩
  have ht1 : ∀ y, y ∈ pL S → tg1 y = tg y := by rw [etg1]; exact tgx_o
  have hn1 : ∀ y, y ∉ pL S → tg1 y = mkO S1 (aNo A) cp lv y := fun y hy => by rw [etg1]; exact tgx_n hy
  obtain ⟨tg2, etg2⟩ : ∃ z, z = tgx S1 tg1 (fun _ => 22) := ⟨_, rfl⟩
  have ht2 : ∀ y, y ∈ pL S1 → tg2 y = tg1 y := by rw [etg2]; exact tgx_o
  obtain ⟨W', eW⟩ : ∃ z, z = uW (uW (uWf (uWf W 8 (aNo A) cp) 9 (aNo A) lv) 6 (aNo A) q) 7 (aNo A) ls := ⟨_, rfl⟩
  have w6 : W' 6 (aNo A) 0 = q := by rw [eW]; simp [uW, uWf]
  have w7 : W' 7 (aNo A) 0 = ls := by rw [eW]; simp [uW, uWf]
  have w8 : W' 8 (aNo A) = cp := by rw [eW]; funext j; simp [uW, uWf]
  have w9 : W' 9 (aNo A) = lv := by rw [eW]; funext j; simp [uW, uWf]
  have wo : ∀ r i, i ≠ aNo A → W' r i = W r i := by
    intro r i hi
    rw [eW]
    funext j
    simp only [uW, uWf, if_neg hi, ite_self]
  have wr : ∀ r, r ≠ 6 → r ≠ 7 → r ≠ 8 → r ≠ 9 → W' r = W r := by
    intro r h6 h7 h8 h9
    rw [eW]
    funext i j
    simp only [uW, uWf, if_neg h6, if_neg h7, if_neg h8, if_neg h9]
  -- the first step
  have b1 := hbk.ex hv hx1 ht1 hg1 (fun _ _ _ z => z) (fun _ _ _ z => z) (fun _ _ _ z => z) (fun z => z) (fun z => z) (fun _ _ _ z => z)
  have o1 := hor.ex hv hsh.sc hx1 ht1 hg1 (fun _ _ _ _ z => z) (fun _ _ _ _ z => z) (fun _ _ _ z => z) (fun _ _ z => z) (fun _ _ z => z)
  have s1 := hsh.ex hv hor.lv hx1 ht1 hg1 (fun _ _ _ _ z => z) (fun _ _ _ z => z) (fun _ _ z => z) (fun _ _ _ z => z) (fun z => z) (fun z => z)
  have r1 := hr.ex hx1 ht1 (fun _ _ _ z => z) (fun _ _ _ z => z) (fun _ _ z => z)
  have hC := ho.2.2.2.2.2.2.1
  have hinj := ho.2.2.2.2.2.2.2
  have hcinj : ∀ i j, i < n → j < n → cp i = cp j → i = j := fun i j hi hj e => hinj i j hi hj (Option.some.inj ((hC i hi).2.1.symm.trans (by rw [e]; exact (hC j hj).2.1)))
  have tls : tg1 ls = 600 + aNo A := by
    rw [hn1 ls nls]
    unfold mkO
    rw [if_pos ho.2.2.2.2.1.1.2]
  have tcp : ∀ c, c < n → tg1 (cp c) = 800 + 3 * aNo A + c := by
    intro c hc
    have k := (hC c hc).1.2
    rw [hn1 _ (hfr c hc).2.1]
    unfold mkO
    rw [if_neg (by rw [k]; decide), if_neg (by rw [k]; decide), if_pos k, ix3_eq hcinj n3 hc]
  have tlv : ∀ c, c < n → tg1 (lv c) = 900 + 3 * aNo A + c := by
    intro c hc
    have k := (hC c hc).2.2.1.2
    rw [hn1 _ (hfr c hc).2.2]
    unfold mkO
    rw [if_neg (by rw [k]; decide), if_neg (by rw [k]; decide), if_neg (by rw [k]; decide), ix3_eq hinj n3 hc]
  have tar : LA S1 tg1 ls (700 + aNo A) := by
    intro arr h1 h2
    rw [hn1 arr (narr arr h1)]
    obtain ⟨-, -, arr2, ra2, harr, -⟩ := ho.2.2.2.2.1
    have e : arr2 = arr := Option.some.inj (ra2.symm.trans h1)
    subst e
    rcases harr with ⟨-, z⟩ | z
    · rw [z] at h2; exact absurd h2 hg1
    · unfold mkO
      rw [if_neg (by rw [z.1.2]; decide), if_pos z.1.2]
  have hor1 : OR1 G S1 tg1 W' (newO A b n) (aNo A) := by
    have e2 : aOb (newO A b n) (aNo A) = b := by
      show (if aNo A = aNo A ∧ ((2 : Nat) = 2 ∨ (2 : Nat) = 3 ∨ (2 : Nat) = 4 ∨ (2 : Nat) = 5) then b else aOb A (aNo A)) = b
      rw [if_pos ⟨rfl, by decide⟩]
    have e3 : aNc (newO A b n) (aNo A) = n := by
      show (if aNo A = aNo A ∧ ((3 : Nat) = 2 ∨ (3 : Nat) = 3 ∨ (3 : Nat) = 4 ∨ (3 : Nat) = 5) then n else aNc A (aNo A)) = n
      rw [if_pos ⟨rfl, by decide⟩]
    have e4 : ∀ c, aBd (newO A b n) (aNo A) c = 0 := by
      intro c
      show (if aNo A = aNo A ∧ ((4 : Nat) = 2 ∨ (4 : Nat) = 3 ∨ (4 : Nat) = 4 ∨ (4 : Nat) = 5) then 0 else aBd A (aNo A) c) = 0
      rw [if_pos ⟨rfl, by decide⟩]
    have e5 : ∀ c f, aHl (newO A b n) (aNo A) c f = 0 := by
      intro c f
      show (if aNo A = aNo A ∧ ((5 : Nat) = 2 ∨ (5 : Nat) = 3 ∨ (5 : Nat) = 4 ∨ (5 : Nat) = 5) then 0 else aHl A (aNo A) c f) = 0
      rw [if_pos ⟨rfl, by decide⟩]
    refine ⟨?_, by show pI S1 128 (W' 6 (aNo A) 0) = _; rw [w6]; exact i128, by show tg1 (W' 7 (aNo A) 0) = _; rw [w7]; exact tls, by show LA S1 tg1 (W' 7 (aNo A) 0) _; rw [w7]; exact tar, fun c hc => ?_⟩
    · show isOr G S1 (W' 6 (aNo A) 0) (W' 1 (aOb (newO A b n) (aNo A)) 0) (W' 7 (aNo A) 0) (aNc (newO A b n) (aNo A)) (W' 8 (aNo A)) (W' 9 (aNo A))
      rw [w6, w7, w8, w9, e2, e3, wr 1 (by decide) (by decide) (by decide) (by decide)]
      exact ho
    · rw [e3] at hc
      obtain ⟨k1, k2, k3, k4, k5, k6, k7⟩ := (hfr c hc).1
      unfold CP1 LF1
      show tg1 (W' 8 (aNo A) c) = _ ∧ tg1 (W' 9 (aNo A) c) = _ ∧ (aBd (newO A b n) (aNo A) c = 0 ∧ pI S1 33 (W' 8 (aNo A) c) = 0 ∨ _) ∧ ∀ f, f < 43 → (aHl (newO A b n) (aNo A) c f = 0 ∧ pB S1 (W' 9 (aNo A) c) f = none) ∨ _
      rw [w8, w9]
      exact ⟨tcp c hc, tlv c hc, Or.inl ⟨e4 c, k6⟩, fun f _ => Or.inl ⟨e5 c f, k5 f⟩⟩
  -- the second step
  obtain ⟨ha1, hx2, ha3⟩ := hadd
  have t12 : tg1 (wLo W) = 12 := o1.2.1
  have arrL : ∀ y, y ∈ pL S1 → pR S1 289 (wLo W) = some y → tg1 y = 22 := fun y hy z => o1.2.2.1 y z hy
  have hns : aNs (newO A b n) = aNs A := rfl
  have hnb : aNb (newO A b n) = aNb A := rfl
  have er : ∀ r, r ≠ 0 → r ≠ 2 → r ≠ 3 → r ≠ 4 → r ≠ 5 → (newO A b n).1 r = A.1 r := fun r h0 h2 h3 h4 h5 => newO_r h0 h2 h3 h4 h5
  have hvN := hv.nwo h5 hb n1 n3
  have hlv1 : ∀ o c, o < aNo A → c < aNc A o → wLv W o c ∈ pL S1 ∧ tg1 (wLv W o c) = 900 + 3 * o + c := fun o c h1 h2 => o1.lv o c h1 h2
  refine ⟨tg2, W', ⟨⟨hvN, ?_, ?_, ?_, ?_⟩, ?_⟩, ?_⟩
  · refine CLb.cA (A := A) (CLb.cW (W := W) (b1.ex hv hx2 ht2 hg2 (fun f y h z => by omega) (fun f y h z => by omega) (fun _ _ _ z => z) (fun z => ?_) (fun z => ?_) (fun y hy h z => ?_)) (fun i hi => ?_) (fun i hi => ?_)) hnb (er 1 (by decide) (by decide) (by decide) (by decide) (by decide)) rfl rfl rfl
    · have := b1.2.1; rw [z.1] at this; omega
    · have := b1.2.1; rw [z.1] at this; omega
    · have := arrL y hy z; omega
    · rw [wr 0 (by decide) (by decide) (by decide) (by decide)]
    · rw [wr 1 (by decide) (by decide) (by decide) (by decide), wr 2 (by decide) (by decide) (by decide) (by decide), wr 3 (by decide) (by decide) (by decide) (by decide), wr 4 (by decide) (by decide) (by decide) (by decide), wr 5 (by decide) (by decide) (by decide) (by decide)]
      exact ⟨rfl, rfl, rfl, rfl, rfl⟩
  · refine ⟨?_, ?_, ?_, fun o hoo => ?_⟩
    · show isList G S2 (W' 0 1 0) (aNo A + 1) 4 (fun o => W' 6 o 0)
      rw [wr 0 (by decide) (by decide) (by decide) (by decide)]
      refine ha1.cong (fun i hi => ?_)
      show W' 6 i 0 = if i = aNo A then q else W 6 i 0
      by_cases hz : i = aNo A
      · rw [if_pos hz, hz, w6]
      · rw [if_neg hz, wo 6 i hz]
    · show tg2 (W' 0 1 0) = 12
      rw [wr 0 (by decide) (by decide) (by decide) (by decide)]
      exact (ht2 _ o1.1.1.1).trans t12
    · show LA S2 tg2 (W' 0 1 0) 22
      rw [wr 0 (by decide) (by decide) (by decide) (by decide)]
      intro arr h1 h2
      rcases ha3 arr h1 with z | z
      · by_cases hin : arr ∈ pL S1
        · exact (ht2 arr hin).trans (arrL arr hin z)
        · rw [etg2]; exact tgx_n hin
      · rw [etg2]; exact tgx_n z
    · have hoo' : o < aNo A + 1 := hoo
      by_cases hz : o = aNo A
      · subst hz
        refine hor1.ex h5 (by rw [hns]; exact hv.2.2.1) ?_ hx2 ht2 hg2 (fun f y h1 h2 z => by omega) (fun f y h1 h2 z => by omega) (fun y hy h1 h2 z => ?_) (fun y h1 h2 z => ?_) (fun y h1 h2 z => ?_)
        · intro j hj
          show W' 11 j 0 ∈ pL S1 ∧ tg1 (W' 11 j 0) = 1000 + j
          rw [wr 11 (by decide) (by decide) (by decide) (by decide)]
          exact s1.sc j hj
        · have := arrL y hy z; omega
        · rw [z.1] at h1; omega
        · rw [z.1] at h1; omega
      · have hlt : o < aNo A := by omega
        have := (o1.2.2.2 o hlt).ex (by omega) hv.2.2.1 s1.sc hx2 ht2 hg2 (fun f y h1 h2 z => by omega) (fun f y h1 h2 z => by omega) (fun y hy h1 h2 z => by have := arrL y hy z; omega) (fun y h1 h2 z => by rw [z.1] at h1; omega) (fun y h1 h2 z => by rw [z.1] at h1; omega)
        exact this.cWA (wo 6 o hz) (wo 7 o hz) (wo 8 o hz) (wo 9 o hz) (wr 1 (by decide) (by decide) (by decide) (by decide)) (wr 10 (by decide) (by decide) (by decide) (by decide)) (wr 11 (by decide) (by decide) (by decide) (by decide)) (newO_o hz 2 (by decide)) (newO_o hz 3 (by decide)) (newO_o hz 4 (by decide)) (newO_o hz 5 (by decide)) (by rw [er 6 (by decide) (by decide) (by decide) (by decide) (by decide)]) rfl rfl
  · refine CLs.mo (A := A) (CLs.cW (W := W) (s1.ex hv hlv1 hx2 ht2 hg2 (fun f y h z => by omega) (fun f y h z => by omega) (fun _ _ z => z) (fun y hy h z => ?_) (fun z => ?_) (fun z => ?_)) (Nat.le_refl _) (fun i hi => ?_) (fun o hoo => wo 9 o (by omega)) (fun j hj => ?_)) (Nat.le_succ _) rfl (fun o hoo => ?_) (er 8 (by decide) (by decide) (by decide) (by decide) (by decide)) (er 9 (by decide) (by decide) (by decide) (by decide) (by decide)) (er 11 (by decide) (by decide) (by decide) (by decide) (by decide))
    · have := arrL y hy z; omega
    · have := s1.2.1; rw [z.1] at this; omega
    · have := s1.2.1; rw [z.1] at this; omega
    · rw [wr 0 (by decide) (by decide) (by decide) (by decide)]
    · rw [wr 10 (by decide) (by decide) (by decide) (by decide), wr 11 (by decide) (by decide) (by decide) (by decide), wr 12 (by decide) (by decide) (by decide) (by decide), wr 13 (by decide) (by decide) (by decide) (by decide), wr 14 (by decide) (by decide) (by decide) (by decide)]
      exact ⟨rfl, rfl, rfl, rfl, rfl⟩
    · unfold aNc
      rw [newO_o (by omega) 3 (by decide)]
  · refine CLr.cA (A := A) (CLr.cW (W := W) (r1.ex hx2 ht2 (fun f y h z => by omega) (fun f y h z => by omega) (fun _ _ z => z)) (wr 0 (by decide) (by decide) (by decide) (by decide))) rfl rfl (fun k => ?_) (er 10 (by decide) (by decide) (by decide) (by decide) (by decide))
    rw [er 7 (by decide) (by decide) (by decide) (by decide) (by decide)]
  · intro o hoo c f hf h1 h2
    have hoo' : o < aNo A + 1 := hoo
    by_cases hz : o = aNo A
    · subst hz
      have h1' : (if aNo A = aNo A ∧ ((5 : Nat) = 2 ∨ (5 : Nat) = 3 ∨ (5 : Nat) = 4 ∨ (5 : Nat) = 5) then 0 else aHl A (aNo A) c f) = 1 := h1
      rw [if_pos ⟨rfl, by decide⟩] at h1'
      exact absurd h1' (by decide)
    · have e2 : aOb (newO A b n) o = aOb A o := by unfold aOb; rw [newO_o hz 2 (by decide)]
      have e4 : aBd (newO A b n) o c = aBd A o c := by unfold aBd; rw [newO_o hz 4 (by decide)]
      have e5 : aHl (newO A b n) o c f = aHl A o c f := by unfold aHl; rw [newO_o hz 5 (by decide)]
      have e1 : ∀ i, aLen (newO A b n) i = aLen A i := by
        intro i
        unfold aLen aRow aSz aPs aBt aCv
        rw [er 1 (by decide) (by decide) (by decide) (by decide) (by decide)]
        rfl
      rw [e5] at h1
      rw [e4] at h2
      rw [e2, e1]
      exact hF o (by omega) c f hf h1 h2
  · refine FrC.tr (FrC.of hx1 ht1 (fun _ _ z => z.elim) (fun _ _ z => z.elim) (fun _ z => z.elim)) (FrC.of hx2 ht2 (fun f y z => by omega) (fun f y z => by omega) (fun _ z => z.elim))
set_option maxRecDepth 100000 in
set_option maxHeartbeats 1000000 in
theorem c_order (hl : l.stackTraces = false) (h : CL G S tg W A t) (b c : Int32) :
    MT l G S yX7_order cX7_order 4 (some .int) (rmU 14 630) [va_rf (some t), .int b, .int c] (EN G S tg t (oOrder A b c)) (XO A (oOrder A b c) [eIO, eIA, eIS]) := by
  obtain ⟨⟨hv, hb, ho, hs, hr⟩, hF⟩ := id h
  have h4 := hv.1
  have h5 := hv.2.1
  refine MT_of (by decide +kernel) hl rfl (Nat.le_of_ble_eq_true rfl) (fun Z hC hzl hnm hT hQ => ?_)
  change J G Z S 0 0 0 [some (va_rf (some t)), some (.int b), some (.int c), none] []
  have hzs : (zl Z).stackTraces = false := by rw [hzl]; exact hl
  refine r_aload_n hC dX7_order_0 rfl rfl ?_
  refine r_iload_n hC dX7_order_1 rfl rfl ?_
  refine r_cV (as := [.int b]) hC (c_bookNumbered hzs hr.1 hr.2.1 hb.1 h4 b) cs_X7_bookNumbered q_408 q_410 q_5 (hr.1) (by decide) rfl dX7_order_2 rfl rfl ⟨Nat.le_of_ble_eq_true rfl, Nat.le_of_ble_eq_true rfl⟩ (Nat.le_of_ble_eq_true rfl) ⟨Nat.le_of_ble_eq_true rfl, Nat.le_of_ble_eq_true rfl⟩ (fun v2 S2 p2 => ?_) (fun E2 x2 => ?_)
  · obtain ⟨j, hj, rfl, rfl, e2⟩ := p2
    rw [e2]
    have hbk := hb.2.2.2 j hj
    have q1 : ixb (nI j) (aNb A) = true := ixb_t hj (by omega)
    have q2 : ii (nI j) = j := ii_n (by omega)
    refine r_astore_n hC dX7_order_5 rfl (by decide) ?_
    refine r_iload_n hC dX7_order_6 rfl rfl ?_
    refine r_iconst (v := nI 1) hC dX7_order_7 (by decide) ?_
    refine r_iconst (v := nI 3) hC dX7_order_8 (by decide) ?_
    refine r_cS (as := [.int c, .int (nI 1), .int (nI 3)]) hC (c_checkRange hzs c (nI 1) (nI 3)) cs_X7_checkRange q_432 q_433 dX7_order_9 rfl rfl ⟨Nat.le_of_ble_eq_true rfl, Nat.le_of_ble_eq_true rfl⟩ (Nat.le_of_ble_eq_true rfl) ⟨Nat.le_of_ble_eq_true rfl, Nat.le_of_ble_eq_true rfl⟩ (fun v9 S9 p9 => ?_) (fun E9 x9 => ?_)
    · obtain ⟨rfl, e9, a1, a2⟩ := p9
      rw [e9]
      obtain ⟨n, n1, n3, rfl⟩ := rgb_13 a1 a2
      have q3 : rgb (nI n) 1 3 = true := rgb_t a1 a2
      refine r_aload_n hC dX7_order_12 rfl rfl ?_
      refine r_getR  hC fl_X7_16 dX7_order_13 (hr.1) (hr.2.2.1) ?_
      refine r_cV (as := []) hC (c_size hzs ho.1.1) cs_Jx4a65c_size_8abf5 q_201 q_202 q_203 (ho.1.1) (by decide) rfl dX7_order_16 rfl rfl ⟨Nat.le_of_ble_eq_true rfl, Nat.le_of_ble_eq_true rfl⟩ (Nat.le_of_ble_eq_true rfl) ⟨Nat.le_of_ble_eq_true rfl, Nat.le_of_ble_eq_true rfl⟩ (fun v16 S16 p16 => ?_) (fun _ x => x.elim)
      obtain ⟨rfl, e16⟩ := p16
      rw [e16, ho.1.2.1]
      refine r_iconst (v := nI 5) hC dX7_order_19 (by decide) ?_
      refine r_iclt (tgt := 33) hC dX7_order_20 (by decide) (fun h20 => ?_) (fun h20 => ?_)
      rotate_left
      · have e : aNo A = 5 := by
          have : ¬ aNo A < 5 := fun w => h20 (nI_lt w (by decide))
          omega
        exact r_throw (i := 5) (E := eIS) (names := ["java/lang/RuntimeException", "java/lang/Exception"]) hC hQ hT ⟨2, by unfold oOrder; rw [if_pos q1, if_pos q3, if_pos e], rfl⟩ (by decide +kernel) (by decide +kernel) q_241 q_83 rfl hat_60 hot_60 dX7_order_23 dX7_order_26 dX7_order_27 dX7_order_29 dX7_order_32 (Nat.le_of_ble_eq_true rfl) (Nat.le_of_ble_eq_true rfl) (Nat.le_of_ble_eq_true rfl) (Nat.le_of_ble_eq_true rfl)
      · have hn5 : aNo A < 5 := (nI_ltI (by omega) (by omega)).mp h20
        have hx0 : ∀ q, q ∉ pL S → Ex S (sO S q 4) x2 x2 x0 x0 := fun q hq => Ex.newO hq
        refine r_aload_n hC dX7_order_33 rfl rfl ?_
        refine r_getR  hC fl_X7_16 dX7_order_34 (hr.1) (hr.2.2.1) ?_
        refine r_new hC nw_X7_115 dX7_order_37 (Nat.le_of_ble_eq_true rfl) (Nat.le_of_ble_eq_true rfl) (fun q37 hq37 hg37 => ?_)
        refine r_dup hC dX7_order_40 rfl ?_
        have hr2 : pR (sO S q37 4) 225 t = some (wLo W) := ((Ex.newO (XI := x2) (XR := x2) (XA := x0) (XB := x0) hq37 t hr.1.1).2.2.2.2.1 225 (fun z => z)).trans hr.2.2.1
        have hl2 : pI (sO S q37 4) 290 (wLo W) = nI (aNo A) := ((Ex.newO (XI := x2) (XR := x2) (XA := x0) (XB := x0) hq37 _ ho.1.1.1).2.2.2.1 290 (fun z => z)).trans ho.1.2.1
        refine r_aload_n hC dX7_order_41 rfl rfl ?_
        refine r_getR  hC fl_X7_16 dX7_order_42 (kd_sO hr.1 hq37) (hr2) ?_
        refine r_cV (as := []) hC (c_size hzs (kd_sO ho.1.1 hq37)) cs_Jx4a65c_size_8abf5 q_201 q_202 q_203 (kd_sO ho.1.1 hq37) (by decide) rfl dX7_order_45 rfl rfl ⟨Nat.le_of_ble_eq_true rfl, Nat.le_of_ble_eq_true rfl⟩ (Nat.le_of_ble_eq_true rfl) ⟨Nat.le_of_ble_eq_true rfl, Nat.le_of_ble_eq_true rfl⟩ (fun v45 S45 p45 => ?_) (fun _ x => x.elim)
        obtain ⟨rfl, e45⟩ := p45
        rw [e45, hl2]
        refine r_aload_n hC dX7_order_48 rfl rfl ?_
        refine r_iload_n hC dX7_order_49 rfl rfl ?_
        refine r_cIN (as := [.int (nI (aNo A)), va_rf (some (wBk W j)), .int (nI n)]) hC (c_Order_init hzs kd_newO (kd_sO hbk.1.1 hq37) n3 (nI (aNo A))) cs_X4_init q_546 q_547 rfl dX7_order_50 rfl rfl ⟨Nat.le_of_ble_eq_true rfl, Nat.le_of_ble_eq_true rfl⟩ (Nat.le_of_ble_eq_true rfl) ⟨Nat.le_of_ble_eq_true rfl, Nat.le_of_ble_eq_true rfl⟩ (fun v50 S50 p50 => ?_) (fun _ x => x.elim)
        obtain ⟨rfl, ls, cp, lv, hor, hfr, i128, nls, narr, hex⟩ := p50
        have hx1 : Ex S S50 x2 x2 x0 x0 := Ex.trM (Ex.newO hq37) hex (fun f y hy e => hq37 (e ▸ hy)) (fun f y hy e => hq37 (e ▸ hy)) (fun _ _ h => h) (fun _ _ h => h)
        have hl50 : isList G S50 (wLo W) (aNo A) 4 (wOo W) := ho.1.ex hx1 (fun z => z) (fun z => z) (fun _ _ z => z)
        refine r_hge hC (fun hg50 => ?_)
        refine r_cV (as := [va_rf (some q37)]) hC (c_add hzs hl50 (by omega) hg50 hor.1 (r := (RX4, TX4, 3)) (by decide) rfl q_1207) cs_Jx4a65c_add_9ea2d q_338 q_339 q_340 (hl50.1) (by decide) rfl dX7_order_53 rfl rfl ⟨Nat.le_of_ble_eq_true rfl, Nat.le_of_ble_eq_true rfl⟩ (Nat.le_of_ble_eq_true rfl) ⟨Nat.le_of_ble_eq_true rfl, Nat.le_of_ble_eq_true rfl⟩ (fun v53 S53 p53 => ?_) (fun _ x => x.elim)
        obtain ⟨rfl, hadd⟩ := p53
        refine r_hge hC (fun hg53 => ?_)
        have hx2 := hadd.2.1
        have kt53 := hx2.kd (hx1.kd hr.1)
        have r53 : pR S53 225 t = some (wLo W) := ((hx2 t (hx1.kd hr.1).1).2.2.2.2.1 225 (fun z => by omega)).trans (((hx1 t hr.1.1).2.2.2.2.1 225 (fun z => z)).trans hr.2.2.1)
        refine r_pop hC dX7_order_56 rfl ?_
        refine r_aload_n hC dX7_order_57 rfl rfl ?_
        refine r_getR  hC fl_X7_16 dX7_order_58 (kt53) (r53) ?_
        refine r_cV (as := []) hC (c_size hzs hadd.1.1) cs_Jx4a65c_size_8abf5 q_201 q_202 q_203 (hadd.1.1) (by decide) rfl dX7_order_61 rfl rfl ⟨Nat.le_of_ble_eq_true rfl, Nat.le_of_ble_eq_true rfl⟩ (Nat.le_of_ble_eq_true rfl) ⟨Nat.le_of_ble_eq_true rfl, Nat.le_of_ble_eq_true rfl⟩ (fun v61 S61 p61 => ?_) (fun _ x => x.elim)
        obtain ⟨rfl, e61⟩ := p61
        rw [e61, hadd.1.2.1]
        refine r_iconst (v := nI 1) hC dX7_order_64 (by decide) ?_
        refine r_isub hC dX7_order_65 ?_
        refine r_iret hC hQ rfl dX7_order_66 (Nat.le_of_ble_eq_true rfl) (Nat.le_of_ble_eq_true rfl) ?_
        rw [show (nI (aNo A + 1) - nI 1 : Int32) = nI (aNo A) from pk_sub (by omega)]
        have hfr' : ∀ c, c < n → frC S50 (cp c) (lv c) ∧ cp c ∉ pL S ∧ lv c ∉ pL S := fun c hc => ⟨(hfr c hc).1, fun z => (hfr c hc).2.1 (List.mem_append_left _ z), fun z => (hfr c hc).2.2 (List.mem_append_left _ z)⟩
        obtain ⟨tg', W', hcl, hfc⟩ := h.nwo hn5 hj n1 n3 hq37 hx1 hor hfr' i128 (fun z => nls (List.mem_append_left _ z)) (fun arr z w => narr arr z (List.mem_append_left _ w)) hg50 hadd hg53
        have e : oOrder A (nI j) (nI n) = (0, nI (aNo A), newO A j n) := by unfold oOrder; rw [if_pos q1, if_pos q3, if_neg (by omega), q2, ii_n (by omega)]
        rw [e]
        exact ⟨rfl, rfl, tg', W', hcl, hfc⟩
    · refine r_out hC hQ hT (Nat.le_of_ble_eq_true rfl) (Nat.le_of_ble_eq_true rfl) ⟨1, ?_, by rw [x9.1]; rfl⟩
      unfold oOrder
      rw [if_pos q1, if_neg (by rw [rgb_f x9.2]; decide)]
  · refine r_out hC hQ hT (Nat.le_of_ble_eq_true rfl) (Nat.le_of_ble_eq_true rfl) ⟨0, ?_, by rw [x2.1]; rfl⟩
    unfold oOrder
    rw [if_neg (by rw [ixb_f x2.2]; decide)]
end OrderP

