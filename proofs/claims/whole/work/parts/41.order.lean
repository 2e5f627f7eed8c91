/-! ===== folds that are set, orders that are taken ===== -/
def ix3 (f : Nat → Nat) (y : Nat) : Nat := if y = f 0 then 0 else if y = f 1 then 1 else 2
theorem ix3_eq {f : Nat → Nat} {n c : Nat} (h : ∀ i j, i < n → j < n → f i = f j → i = j) (h3 : n ≤ 3) (hc : c < n) : ix3 f (f c) = c := by
  unfold ix3
  by_cases h0 : f c = f 0
  · rw [if_pos h0]
    exact (h c 0 hc (by omega) h0).symm
  · rw [if_neg h0]
    have c0 : c ≠ 0 := fun z => h0 (by rw [z])
    by_cases h1 : f c = f 1
    · rw [if_pos h1]
      exact (h c 1 hc (by omega) h1).symm
    · rw [if_neg h1]
      have c1 : c ≠ 1 := fun z => h1 (by rw [z])
      omega
def newO (A : AS) (b n : Nat) : AS := (fun r i j k => if r = 0 then (if i = 1 ∧ j = 0 ∧ k = 0 then aNo A + 1 else A.1 0 i j k) else if i = aNo A ∧ (r = 2 ∨ r = 3 ∨ r = 4 ∨ r = 5) then (if r = 2 then b else if r = 3 then n else 0) else A.1 r i j k, A.2)
def oOrder (A : AS) (b c : Int32) : OP := if ixb b (aNb A) = true then (if rgb c 1 3 = true then (if aNo A = 5 then (3, 0, A) else (0, nI (aNo A), newO A (ii b) (ii c))) else (2, 0, A)) else (1, 0, A)
section OrderN
variable {l : Launch} {G : GG} {S S' : PS} {tg : TG} {W W' : WT} {A A' : AS} {t nl : Nat}
theorem OR1.cWA {o : Nat} (h : OR1 G S tg W A o) (w6 : W' 6 o = W 6 o) (w7 : W' 7 o = W 7 o) (w8 : W' 8 o = W 8 o) (w9 : W' 9 o = W 9 o) (w1 : W' 1 = W 1) (w10 : W' 10 = W 10) (w11 : W' 11 = W 11)
    (a2 : A'.1 2 o = A.1 2 o) (a3 : A'.1 3 o = A.1 3 o) (a4 : A'.1 4 o = A.1 4 o) (a5 : A'.1 5 o = A.1 5 o) (a6 : A'.1 6 o = A.1 6 o) (p3 : A'.2 3 = A.2 3) (ns : aNs A' = aNs A) : OR1 G S tg W' A' o := by
  obtain ⟨g1, g2, g3, g4, g5⟩ := h
  have n2 : aNs A' = aNs A := ns
  have o2 : aOb A' o = aOb A o := by unfold aOb; rw [a2]
  have o3 : aNc A' o = aNc A o := by unfold aNc; rw [a3]
  refine ⟨?_, by show pI S 128 (W' 6 o 0) = _; rw [w6]; exact g2, by show tg (W' 7 o 0) = _; rw [w7]; exact g3, by show LA S tg (W' 7 o 0) _; rw [w7]; exact g4, fun c hc => ?_⟩
  · show isOr G S (W' 6 o 0) (W' 1 (aOb A' o) 0) (W' 7 o 0) (aNc A' o) (W' 8 o) (W' 9 o)
    rw [w6, w7, w8, w9, w1, o2, o3]
    exact g1
  · rw [o3] at hc
    obtain ⟨c1, c2, c3, c4⟩ := g5 c hc
    have o4 : aBd A' o c = aBd A o c := by unfold aBd; rw [a4]
    unfold CP1 LF1
    show tg (W' 8 o c) = _ ∧ tg (W' 9 o c) = _ ∧ (aBd A' o c = 0 ∧ pI S 33 (W' 8 o c) = 0 ∨ aBd A' o c ≠ 0 ∧ pI S 33 (W' 8 o c) = 1 ∧ pI S 34 (W' 8 o c) = nI (aBd A' o c - 1)) ∧ ∀ f, f < 43 → (aHl A' o c f = 0 ∧ pB S (W' 9 o c) f = none) ∨ (aHl A' o c f = 1 ∧ ∃ y, pB S (W' 9 o c) f = some y ∧ _)
    rw [w8, w9, o4]
    refine ⟨c1, c2, c3, fun f hf => ?_⟩
    have o5 : aHl A' o c f = aHl A o c f := by unfold aHl; rw [a5]
    have o6 : aLs A' o c f = aLs A o c f := by unfold aLs; rw [a6]
    have o7 : aPos A' o c f = aPos A o c f := by unfold aPos; rw [p3]
    rw [o5]
    rcases c4 f hf with h | ⟨d0, y, hy, d1, d2, d3, d4, d5, d6, x, hx, d7⟩
    · exact Or.inl h
    · refine Or.inr ⟨d0, y, hy, o7.trans d1, by rw [o6, n2]; exact d2, ?_, d4, d5, d6, x, hx, ?_⟩
      · show _ = some (W' 10 (aLs A' o c f) 0)
        rw [w10, o6]; exact d3
      · show pB S (W' 11 (aLs A' o c f) 0) x = _
        rw [w11, o6]; exact d7
theorem CLs.mo {nl : Nat} (h : CLs G S tg W A nl) (e0 : aNo A ≤ aNo A') (e1 : aNs A' = aNs A) (e3 : ∀ o, o < aNo A → aNc A' o = aNc A o) (e8 : A'.1 8 = A.1 8) (e9 : A'.1 9 = A.1 9) (e11 : A'.1 11 = A.1 11) : CLs G S tg W A' nl := by
  obtain ⟨h1, h2, h3, h4⟩ := h
  refine ⟨h1, h2, h3, fun j hj => ?_⟩
  rw [e1] at hj
  obtain ⟨g1, g2, g3, g4, g5, g6, g7, g8, g9⟩ := h4 j hj
  refine ⟨g1, g2, g3, g4, g5, g6, ?_, ?_, fun x hx => ?_⟩
  · simp only [aWt, e8] at g7 ⊢
    exact g7
  · simp only [aTr, e9] at g8 ⊢
    exact g8
  · rcases g9 x hx with z | ⟨y, o, c, f, hy, ky, ry, h101, ho, hcc, hf, q1, q2, q3, q4, q5⟩
    · refine Or.inl ?_
      simp only [aLi, e11] at z ⊢
      exact z
    · refine Or.inr ⟨y, o, c, f, hy, ky, ry, h101, Nat.lt_of_lt_of_le ho e0, by rw [e3 o ho]; exact hcc, hf, q1, q2, q3, ?_, q5⟩
      simp only [aLi, e11] at q4 ⊢
      exact q4
theorem newO_o {b n i : Nat} (h : i ≠ aNo A) (r : Nat) (hr : r ≠ 0) : (newO A b n).1 r i = A.1 r i := by
  funext j k
  show (if r = 0 then _ else if i = aNo A ∧ (r = 2 ∨ r = 3 ∨ r = 4 ∨ r = 5) then _ else A.1 r i j k) = _
  rw [if_neg hr, if_neg (fun z => h z.1)]
theorem newO_r {b n r : Nat} (h0 : r ≠ 0) (h2 : r ≠ 2) (h3 : r ≠ 3) (h4 : r ≠ 4) (h5 : r ≠ 5) : (newO A b n).1 r = A.1 r := by
  funext i j k
  show (if r = 0 then _ else if i = aNo A ∧ (r = 2 ∨ r = 3 ∨ r = 4 ∨ r = 5) then _ else A.1 r i j k) = _
  rw [if_neg h0, if_neg (fun z => by omega)]
theorem VU.nwo (h : VU A) {b n : Nat} (h4 : aNo A < 5) (hb : b < aNb A) (h1 : 1 ≤ n) (h3 : n ≤ 3) : VU (newO A b n) := by
  obtain ⟨v1, v2, v3, v4, v5, v6, v7, v8, v9, v10, v11⟩ := h
  have e1 : (newO A b n).1 1 = A.1 1 := newO_r (by decide) (by decide) (by decide) (by decide) (by decide)
  have e6 : (newO A b n).1 6 = A.1 6 := newO_r (by decide) (by decide) (by decide) (by decide) (by decide)
  have e7 : (newO A b n).1 7 = A.1 7 := newO_r (by decide) (by decide) (by decide) (by decide) (by decide)
  have e8 : (newO A b n).1 8 = A.1 8 := newO_r (by decide) (by decide) (by decide) (by decide) (by decide)
  have e9 : (newO A b n).1 9 = A.1 9 := newO_r (by decide) (by decide) (by decide) (by decide) (by decide)
  have e10 : (newO A b n).1 10 = A.1 10 := newO_r (by decide) (by decide) (by decide) (by decide) (by decide)
  refine ⟨v1, h4, v3, v4, fun i hi => ?_, fun o ho => ?_, fun o ho c => ?_, ?_, fun j hj => ?_, fun k => ?_, fun o ho c f hf => ?_⟩
  · have := v5 i hi
    simp only [aSz, aPs, aBt, aCv, e1] at this ⊢
    exact this
  · have ho' : o < aNo A + 1 := ho
    by_cases hz : o = aNo A
    · subst hz
      show (if aNo A = aNo A ∧ ((2 : Nat) = 2 ∨ (2 : Nat) = 3 ∨ (2 : Nat) = 4 ∨ (2 : Nat) = 5) then b else aOb A (aNo A)) < aNb A ∧ 1 ≤ (if aNo A = aNo A ∧ ((3 : Nat) = 2 ∨ (3 : Nat) = 3 ∨ (3 : Nat) = 4 ∨ (3 : Nat) = 5) then n else aNc A (aNo A)) ∧ (if aNo A = aNo A ∧ ((3 : Nat) = 2 ∨ (3 : Nat) = 3 ∨ (3 : Nat) = 4 ∨ (3 : Nat) = 5) then n else aNc A (aNo A)) ≤ 3
      rw [if_pos ⟨rfl, by decide⟩, if_pos ⟨rfl, by decide⟩]
      exact ⟨hb, h1, h3⟩
    · have e2 : aOb (newO A b n) o = aOb A o := by unfold aOb; rw [newO_o hz 2 (by decide)]
      have e3 : aNc (newO A b n) o = aNc A o := by unfold aNc; rw [newO_o hz 3 (by decide)]
      rw [e2, e3]
      exact v6 o (by omega)
  · have ho' : o < aNo A + 1 := ho
    by_cases hz : o = aNo A
    · subst hz
      show (if aNo A = aNo A ∧ ((4 : Nat) = 2 ∨ (4 : Nat) = 3 ∨ (4 : Nat) = 4 ∨ (4 : Nat) = 5) then 0 else aBd A (aNo A) c) ≤ 44
      rw [if_pos ⟨rfl, by decide⟩]
      omega
    · have e4 : aBd (newO A b n) o c = aBd A o c := by unfold aBd; rw [newO_o hz 4 (by decide)]
      rw [e4]
      exact v7 o (by omega) c
  · unfold aFd at v8 ⊢
    rw [e7]
    exact v8
  · have := v9 j hj
    simp only [aWt, aTr, e8, e9] at this ⊢
    exact this
  · have := v10 k
    simp only [aDl, e10] at this ⊢
    exact this
  · have ho' : o < aNo A + 1 := ho
    by_cases hz : o = aNo A
    · subst hz
      show (if aNo A = aNo A ∧ ((5 : Nat) = 2 ∨ (5 : Nat) = 3 ∨ (5 : Nat) = 4 ∨ (5 : Nat) = 5) then 0 else aHl A (aNo A) c f) ≤ 1 ∧ ((if aNo A = aNo A ∧ ((5 : Nat) = 2 ∨ (5 : Nat) = 3 ∨ (5 : Nat) = 4 ∨ (5 : Nat) = 5) then 0 else aHl A (aNo A) c f) = 1 → _)
      rw [if_pos ⟨rfl, by decide⟩]
      exact ⟨by omega, fun z => absurd z (by decide)⟩
    · have e5 : aHl (newO A b n) o c f = aHl A o c f := by unfold aHl; rw [newO_o hz 5 (by decide)]
      have e3 : aNc (newO A b n) o = aNc A o := by unfold aNc; rw [newO_o hz 3 (by decide)]
      have e6' : aLs (newO A b n) o c f = aLs A o c f := by unfold aLs; rw [e6]
      rw [e5, e3, e6']
      exact v11 o (by omega) c f hf
set_option maxRecDepth 100000 in
theorem c_oneIf (hl : l.stackTraces = false) {x : Nat} (hx : x < 4) :
    MT l G S yX7_oneIfSideways cX7_oneIfSideways 1 (some .int) (rmA 0) [.int (nI x)] (fun v S' => v = some (.int (nI (sdw (nI x)))) ∧ S' = S) (fun _ => False) := by
  refine MT_of (by decide +kernel) hl rfl (Nat.le_of_ble_eq_true rfl) (fun Z hC hzl hnm hT hQ => ?_)
  change J G Z S 0 0 0 [some (.int (nI x))] []
  refine r_iload_n hC dX7_oneIfSideways_0 rfl rfl ?_
  refine r_ifeq (tgt := 9) hC dX7_oneIfSideways_1 (by decide) (fun h1 => ?_) (fun h1 => ?_)
  · refine r_iconst (v := nI 1) hC dX7_oneIfSideways_9 (by decide) ?_
    refine r_goto (tgt := 14) hC dX7_oneIfSideways_10 (by decide) ?_
    refine r_iret hC hQ rfl dX7_oneIfSideways_14 (Nat.le_of_ble_eq_true rfl) (Nat.le_of_ble_eq_true rfl) ?_
    unfold sdw
    rw [if_pos (Or.inl h1)]
    exact ⟨rfl, rfl⟩
  · skip
    refine r_iload_n hC dX7_oneIfSideways_4 rfl rfl ?_
    refine r_iconst (v := nI 1) hC dX7_oneIfSideways_5 (by decide) ?_
    refine r_icne (tgt := 13) hC dX7_oneIfSideways_6 (by decide) (fun h6 => ?_) (fun h6 => ?_)
    · refine r_iconst (v := nI 0) hC dX7_oneIfSideways_13 (by decide) ?_
      refine r_iret hC hQ rfl dX7_oneIfSideways_14 (Nat.le_of_ble_eq_true rfl) (Nat.le_of_ble_eq_true rfl) ?_
      unfold sdw
      rw [if_neg (fun z => z.elim h1 h6)]
      exact ⟨rfl, rfl⟩
    · refine r_iconst (v := nI 1) hC dX7_oneIfSideways_9 (by decide) ?_
      refine r_goto (tgt := 14) hC dX7_oneIfSideways_10 (by decide) ?_
      refine r_iret hC hQ rfl dX7_oneIfSideways_14 (Nat.le_of_ble_eq_true rfl) (Nat.le_of_ble_eq_true rfl) ?_
      unfold sdw
      have h6' : nI x = 1 := h6
      rw [if_pos (Or.inr h6')]
      exact ⟨rfl, rfl⟩
theorem sdw_n {x : Nat} (h : x < 4) : sdw (nI x) = if x < 2 then 1 else 0 := by
  have e : (nI x = 0 ∨ nI x = 1) ↔ x < 2 := by
    rw [show (0 : Int32) = nI 0 from rfl, show (1 : Int32) = nI 1 from rfl, nI_eq (by omega) (by decide), nI_eq (by omega) (by decide)]
    omega
  unfold sdw
  by_cases hx : x < 2
  · rw [if_pos (e.mpr hx), if_pos hx]
  · rw [if_neg (fun z => hx (e.mp z)), if_neg hx]
theorem CLn.fd (h : CLn G S tg W A t nl) (hg : gE G ∉ pL S') {f : Nat → Nat} {d a : Nat} (hx : Ex S S' x2 (fun f y => y = t ∧ f = 230) x0 x0) (hd : d ∉ pL S) (ha : a ∉ pL S) (hf : isFd S' d a f) (r : pR S' 230 t = some d) (e : ∀ i, i < 3 → f i = aFd A' i) (hA : A' = uD (uD (uD A 7 0 0 0 (f 0)) 7 1 0 0 (f 1)) 7 2 0 0 (f 2)) :
    CLn G S' (tgx S tg (fun _ => 5)) (uW (uW W 0 8 d) 0 9 a) A' t nl ∧ FrC tg S S' (tgx S tg (fun _ => 5)) := by
  obtain ⟨hv, hb, ho, hs, hr⟩ := h
  have ht : ∀ y, y ∈ pL S → tgx S tg (fun _ => 5) y = tg y := tgx_o
  have hok : okf (aFd A') := by
    have := hf.2.2.2.2.2
    unfold okf at this ⊢
    rw [← e 0 (by decide), ← e 1 (by decide), ← e 2 (by decide)]
    exact this
  have hvA : VU A' := by
    obtain ⟨v1, v2, v3, v4, v5, v6, v7, v8, v9, v10, v11⟩ := hv
    subst hA
    exact ⟨v1, v2, v3, v4, v5, v6, v7, hok, v9, v10, v11⟩
  have e8 : ∀ k, k < 8 → uW (uW W 0 8 d) 0 9 a 0 k = W 0 k := by
    intro k hk
    funext j
    simp only [uW, if_true, if_neg (show ¬ k = 9 by omega), if_neg (show ¬ k = 8 by omega)]
  have er : ∀ r, r ≠ 0 → uW (uW W 0 8 d) 0 9 a r = W r := by
    intro r hr
    funext i j
    simp only [uW, if_neg hr]
  refine ⟨⟨hvA, ?_, ?_, ?_, ?_⟩, FrC.of hx ht (fun _ _ z => z.elim) (fun f y z => by omega) (fun _ z => z.elim)⟩
  · subst hA
    refine CLb.cA (A := A) (CLb.cW (W := W) (hb.ex hv hx ht hg (fun _ _ _ z => z) (fun f y h z => by omega) (fun _ _ _ z => z) (fun z => z) (fun z => by omega) (fun _ _ _ z => z)) e8 (fun i hi => ?_)) rfl rfl rfl rfl rfl
    rw [er 1 (by decide), er 2 (by decide), er 3 (by decide), er 4 (by decide), er 5 (by decide)]
    exact ⟨rfl, rfl, rfl, rfl, rfl⟩
  · subst hA
    refine CLo.cA (A := A) (CLo.cW (W := W) (ho.ex hv hs.sc hx ht hg (fun _ _ _ _ z => z) (fun f y h1 h2 z => by omega) (fun _ _ _ z => z) (fun _ _ z => z) (fun _ _ z => by omega)) hv e8 (fun i hi => ?_) (fun o ho => ?_) (fun j hj => ?_)) rfl rfl rfl rfl rfl rfl rfl rfl
    · rw [er 1 (by decide)]
    · rw [er 6 (by decide), er 7 (by decide), er 8 (by decide), er 9 (by decide)]
      exact ⟨rfl, rfl, rfl, rfl⟩
    · rw [er 10 (by decide), er 11 (by decide)]
      exact ⟨rfl, rfl⟩
  · subst hA
    refine CLs.cA (A := A) ?_ rfl rfl rfl rfl rfl rfl
    have := hs.ex hv ho.lv hx ht hg (fun _ _ _ _ z => z) (fun f y h z => by omega) (fun _ _ z => z) (fun _ _ _ z => z) (fun z => z) (fun z => by omega)
    obtain ⟨h1, h2, h3, h4⟩ := this
    refine ⟨?_, ?_, ?_, fun j hj => ?_⟩
    · show isList G S' (uW (uW W 0 8 d) 0 9 a 0 2 0) nl 6 (fun j => uW (uW W 0 8 d) 0 9 a 10 j 0)
      rw [e8 2 (by decide), er 10 (by decide)]
      exact h1
    · show tgx S tg (fun _ => 5) (uW (uW W 0 8 d) 0 9 a 0 2 0) = 13
      rw [e8 2 (by decide)]
      exact h2
    · show LA S' _ (uW (uW W 0 8 d) 0 9 a 0 2 0) 23
      rw [e8 2 (by decide)]
      exact h3
    · have := h4 j hj
      unfold SH1 CE1 at this ⊢
      simp only [wSh, wSc, wSd, wSa, wSf, wLv, er 10 (by decide), er 11 (by decide), er 12 (by decide), er 13 (by decide), er 14 (by decide), er 9 (by decide)] at this ⊢
      exact this
  · obtain ⟨kt, r0, r1, r2, r3, r4, r5, r6, i1, i2, ku, nu, tu, kd, nd, td, hdl, hp, tc, th, hfo, tf⟩ := hr
    have et := hx t kt.1
    have R : ∀ f v, 224 ≤ f → f < 230 → pR S f t = some v → pR S' f t = some v := fun f v h1 h2 h => (et.2.2.2.2.1 f (by omega)).trans h
    have w : ∀ k, k < 8 → uW (uW W 0 8 d) 0 9 a 0 k 0 = W 0 k 0 := fun k hk => by rw [e8 k hk]
    have w8 : uW (uW W 0 8 d) 0 9 a 0 8 0 = d := by simp [uW]
    have w9 : uW (uW W 0 8 d) 0 9 a 0 9 0 = a := by simp [uW]
    unfold CLr
    simp only [wLb, wLo, wLs, wUt, wUd, wPi, wAc, wAh, wFo, wFa, w 0 (by decide), w 1 (by decide), w 2 (by decide), w 3 (by decide), w 4 (by decide), w 5 (by decide), w 6 (by decide), w 7 (by decide), w8, w9]
    refine ⟨hx.kd kt, R _ _ (by decide) (by decide) r0, R _ _ (by decide) (by decide) r1, R _ _ (by decide) (by decide) r2, R _ _ (by decide) (by decide) r3, R _ _ (by decide) (by decide) r4, R _ _ (by decide) (by decide) r5, r, (et.2.2.2.1 231 (fun z => z)).trans (i1.trans (by subst hA; rfl)), (et.2.2.2.1 232 (fun z => z)).trans (i2.trans (by subst hA; rfl)), hx.kd ku, (hx _ ku.1).2.2.1.trans nu, (ht _ ku.1).trans tu, hx.kd kd, (hx _ kd.1).2.2.1.trans nd, (ht _ kd.1).trans td, fun k hk => ?_, hp.ex2 hx (fun f y h => by omega), (ht _ hp.2.2.2.1.1).trans tc, (ht _ hp.2.2.2.2.2.1.1).trans th, ⟨hf.1, hf.2.1, hf.2.2.1, hf.2.2.2.1, fun i hi => by rw [← e i hi]; exact hf.2.2.2.2.1 i hi, hok⟩, tgx_n ha⟩
    rw [(hx _ kd.1).2.2.2.2.2.1 (fun z => z)]
    exact (hdl k hk).trans (by subst hA; rfl)
set_option maxRecDepth 100000 in
set_option maxHeartbeats 1000000 in
theorem c_setFolds (hl : l.stackTraces = false) (h : CL G S tg W A t) (x y z : Int32) :
    MT l G S yX7_setFolds cX7_setFolds 5 none (rmT 2 5 40) [va_rf (some t), .int x, .int y, .int z] (ENv G S tg t (oSetFolds A x y z)) (XO A (oSetFolds A x y z) [eIA]) := by
  obtain ⟨⟨hv, hb, ho, hs, hr⟩, hF⟩ := id h
  refine MT_of (by decide +kernel) hl rfl (Nat.le_of_ble_eq_true rfl) (fun Z hC hzl hnm hT hQ => ?_)
  change J G Z S 0 0 0 [some (va_rf (some t)), some (.int x), some (.int y), some (.int z), none] []
  have hzs : (zl Z).stackTraces = false := by rw [hzl]; exact hl
  refine r_iload_n hC dX7_setFolds_0 rfl rfl ?_
  refine r_iconst (v := nI 0) hC dX7_setFolds_1 (by decide) ?_
  refine r_iconst (v := nI 3) hC dX7_setFolds_2 (by decide) ?_
  refine r_cS (as := [.int x, .int (nI 0), .int (nI 3)]) hC (c_checkRange hzs x (nI 0) (nI 3)) cs_X7_checkRange q_432 q_433 dX7_setFolds_3 rfl rfl ⟨Nat.le_of_ble_eq_true rfl, Nat.le_of_ble_eq_true rfl⟩ (Nat.le_of_ble_eq_true rfl) ⟨Nat.le_of_ble_eq_true rfl, Nat.le_of_ble_eq_true rfl⟩ (fun v3 S3 p3 => ?_) (fun E3 x3 => ?_)
  rotate_left
  · refine r_out hC hQ hT (Nat.le_of_ble_eq_true rfl) (Nat.le_of_ble_eq_true rfl) ⟨0, ?_, by rw [x3.1]; rfl⟩
    unfold oSetFolds
    rw [if_neg (fun w => absurd w.1.1 (by rw [rgb_f x3.2]; decide))]
  · obtain ⟨rfl, e3, a1, a2⟩ := p3
    rw [e3]
    obtain ⟨x, hx, rfl⟩ := rgb_n (by decide) a1 a2
    refine r_iload_n hC dX7_setFolds_6 rfl rfl ?_
    refine r_iconst (v := nI 0) hC dX7_setFolds_7 (by decide) ?_
    refine r_iconst (v := nI 3) hC dX7_setFolds_8 (by decide) ?_
    refine r_cS (as := [.int y, .int (nI 0), .int (nI 3)]) hC (c_checkRange hzs y (nI 0) (nI 3)) cs_X7_checkRange q_432 q_433 dX7_setFolds_9 rfl rfl ⟨Nat.le_of_ble_eq_true rfl, Nat.le_of_ble_eq_true rfl⟩ (Nat.le_of_ble_eq_true rfl) ⟨Nat.le_of_ble_eq_true rfl, Nat.le_of_ble_eq_true rfl⟩ (fun v9 S9 p9 => ?_) (fun E9 x9 => ?_)
    rotate_left
    · refine r_out hC hQ hT (Nat.le_of_ble_eq_true rfl) (Nat.le_of_ble_eq_true rfl) ⟨0, ?_, by rw [x9.1]; rfl⟩
      unfold oSetFolds
      rw [if_neg (fun w => absurd w.1.2.1 (by rw [rgb_f x9.2]; decide))]
    · obtain ⟨rfl, e9, b1, b2⟩ := p9
      rw [e9]
      obtain ⟨y, hy, rfl⟩ := rgb_n (by decide) b1 b2
      refine r_iload_n hC dX7_setFolds_12 rfl rfl ?_
      refine r_iconst (v := nI 0) hC dX7_setFolds_13 (by decide) ?_
      refine r_iconst (v := nI 3) hC dX7_setFolds_14 (by decide) ?_
      refine r_cS (as := [.int z, .int (nI 0), .int (nI 3)]) hC (c_checkRange hzs z (nI 0) (nI 3)) cs_X7_checkRange q_432 q_433 dX7_setFolds_15 rfl rfl ⟨Nat.le_of_ble_eq_true rfl, Nat.le_of_ble_eq_true rfl⟩ (Nat.le_of_ble_eq_true rfl) ⟨Nat.le_of_ble_eq_true rfl, Nat.le_of_ble_eq_true rfl⟩ (fun v15 S15 p15 => ?_) (fun E15 x15 => ?_)
      rotate_left
      · refine r_out hC hQ hT (Nat.le_of_ble_eq_true rfl) (Nat.le_of_ble_eq_true rfl) ⟨0, ?_, by rw [x15.1]; rfl⟩
        unfold oSetFolds
        rw [if_neg (fun w => absurd w.1.2.2 (by rw [rgb_f x15.2]; decide))]
      · obtain ⟨rfl, e15, c1, c2⟩ := p15
        rw [e15]
        obtain ⟨z, hz, rfl⟩ := rgb_n (by decide) c1 c2
        have hrg : rgb (nI x) 0 3 = true ∧ rgb (nI y) 0 3 = true ∧ rgb (nI z) 0 3 = true := ⟨rgb_t a1 a2, rgb_t b1 b2, rgb_t c1 c2⟩
        refine r_iload_n hC dX7_setFolds_18 rfl rfl ?_
        refine r_cS (as := [.int (nI x)]) hC (c_oneIf hzs (x := x) (by omega)) cs_X7_oneIfSideways q_633 q_634 dX7_setFolds_19 rfl rfl ⟨Nat.le_of_ble_eq_true rfl, Nat.le_of_ble_eq_true rfl⟩ (Nat.le_of_ble_eq_true rfl) ⟨Nat.le_of_ble_eq_true rfl, Nat.le_of_ble_eq_true rfl⟩ (fun v19 S19 p19 => ?_) (fun _ x => x.elim)
        obtain ⟨rfl, e19⟩ := p19
        rw [e19]
        refine r_iload_n hC dX7_setFolds_22 rfl rfl ?_
        refine r_cS (as := [.int (nI y)]) hC (c_oneIf hzs (x := y) (by omega)) cs_X7_oneIfSideways q_633 q_634 dX7_setFolds_23 rfl rfl ⟨Nat.le_of_ble_eq_true rfl, Nat.le_of_ble_eq_true rfl⟩ (Nat.le_of_ble_eq_true rfl) ⟨Nat.le_of_ble_eq_true rfl, Nat.le_of_ble_eq_true rfl⟩ (fun v23 S23 p23 => ?_) (fun _ x => x.elim)
        obtain ⟨rfl, e23⟩ := p23
        rw [e23]
        refine r_iadd hC dX7_setFolds_26 ?_
        refine r_iload_n hC dX7_setFolds_27 rfl rfl ?_
        refine r_cS (as := [.int (nI z)]) hC (c_oneIf hzs (x := z) (by omega)) cs_X7_oneIfSideways q_633 q_634 dX7_setFolds_28 rfl rfl ⟨Nat.le_of_ble_eq_true rfl, Nat.le_of_ble_eq_true rfl⟩ (Nat.le_of_ble_eq_true rfl) ⟨Nat.le_of_ble_eq_true rfl, Nat.le_of_ble_eq_true rfl⟩ (fun v28 S28 p28 => ?_) (fun _ x => x.elim)
        obtain ⟨rfl, e28⟩ := p28
        rw [e28, nI_add]
        refine r_iadd hC dX7_setFolds_31 ?_
        rw [nI_add]
        have hs3 : sdw (nI x) + sdw (nI y) + sdw (nI z) ≤ 3 := by
          rw [sdw_n (by omega), sdw_n (by omega), sdw_n (by omega)]
          split <;> split <;> split <;> omega
        refine r_istore hC dX7_setFolds_32 (by decide) ?_
        refine r_iload hC dX7_setFolds_34 rfl ?_
        refine r_iconst (v := nI 2) hC dX7_setFolds_36 (by decide) ?_
        refine r_iceq (tgt := 50) hC dX7_setFolds_37 (by decide) (fun h37 => ?_) (fun h37 => ?_)
        rotate_left
        · refine r_throw (i := 6) (E := eIA) (names := ["java/lang/RuntimeException", "java/lang/Exception"]) hC hQ hT ⟨0, ?_, rfl⟩ (by decide +kernel) (by decide +kernel) q_435 q_92 rfl hat_145 hot_145 dX7_setFolds_40 dX7_setFolds_43 dX7_setFolds_44 dX7_setFolds_46 dX7_setFolds_49 (Nat.le_of_ble_eq_true rfl) (Nat.le_of_ble_eq_true rfl) (Nat.le_of_ble_eq_true rfl) (Nat.le_of_ble_eq_true rfl)
          unfold oSetFolds
          rw [if_neg (fun w => h37 (by rw [w.2]))]
        · have h2 : sdw (nI x) + sdw (nI y) + sdw (nI z) = 2 := (nI_eq (by omega) (by decide)).mp h37
          have hok : okf (folds3 x y z) := by
            refine ⟨⟨?_, ?_, ?_⟩, ?_⟩
            · show x < 4; omega
            · show y < 4; omega
            · show z < 4; omega
            · rw [sdw_n (by omega), sdw_n (by omega), sdw_n (by omega)] at h2
              exact h2
          refine r_aload_n hC dX7_setFolds_50 rfl rfl ?_
          refine r_new hC nw_X7_36 dX7_setFolds_51 (Nat.le_of_ble_eq_true rfl) (Nat.le_of_ble_eq_true rfl) (fun q51 hq51 hg51 => ?_)
          refine r_dup hC dX7_setFolds_54 rfl ?_
          refine r_iload_n hC dX7_setFolds_55 rfl rfl ?_
          refine r_iload_n hC dX7_setFolds_56 rfl rfl ?_
          refine r_iload_n hC dX7_setFolds_57 rfl rfl ?_
          refine r_cIN (as := [.int (nI x), .int (nI y), .int (nI z)]) hC (c_Folding_init hzs kd_newO hok) cs_X2_init q_160 q_161 rfl dX7_setFolds_58 rfl rfl ⟨Nat.le_of_ble_eq_true rfl, Nat.le_of_ble_eq_true rfl⟩ (Nat.le_of_ble_eq_true rfl) ⟨Nat.le_of_ble_eq_true rfl, Nat.le_of_ble_eq_true rfl⟩ (fun v58 S58 p58 => ?_) (fun _ x => x.elim)
          obtain ⟨rfl, a, na, hfd, hex⟩ := p58
          refine r_hge hC (fun hg58 => ?_)
          have na' := nin_W na
          refine r_putR hC fl_X7_41 dX7_setFolds_61 (hex.kd (kd_sO hr.1 hq51)) ?_
          refine r_vret hC hQ rfl dX7_setFolds_64 (Nat.le_of_ble_eq_true rfl) (Nat.le_of_ble_eq_true rfl) ?_
          have hx1 : Ex S S58 x2 x2 x0 x0 := Ex.trM (Ex.newO hq51) hex (fun f y hy e => hq51 (e ▸ hy)) (fun f y hy e => hq51 (e ▸ hy)) (fun _ _ h => h) (fun _ _ h => h)
          have hx2 : Ex S (sR S58 230 t (some q51)) x2 (fun f y => y = t ∧ f = 230) x0 x0 := Ex.tR (hx1.mono (fun _ _ z => z) (fun _ _ z => z.elim) (fun _ z => z) (fun _ z => z)) (Or.inl ⟨rfl, rfl⟩)
          have hfd2 : isFd (sR S58 230 t (some q51)) q51 a (folds3 x y z) := by
            obtain ⟨f1, f2, f3⟩ := hfd
            exact ⟨f1, (R_f S58 t q51 _ (by decide)).trans f2, f3⟩
          have e : oSetFolds A (nI x) (nI y) (nI z) = (0, 0, uD (uD (uD A 7 0 0 0 x) 7 1 0 0 y) 7 2 0 0 z) := by
            unfold oSetFolds
            rw [if_pos ⟨hrg, h2⟩, ii_n (by omega), ii_n (by omega), ii_n (by omega)]
          rw [e]
          have hfe : ∀ i, i < 3 → folds3 x y z i = aFd (uD (uD (uD A 7 0 0 0 x) 7 1 0 0 y) 7 2 0 0 z) i := by
            intro i hi
            rcases (show i = 0 ∨ i = 1 ∨ i = 2 by omega) with rfl | rfl | rfl <;> rfl
          obtain ⟨hc1, hf1⟩ := h.1.fd (A' := uD (uD (uD A 7 0 0 0 x) 7 1 0 0 y) 7 2 0 0 z) (S' := sR S58 230 t (some q51)) (f := folds3 x y z) hg58 hx2 hq51 na'.1 hfd2 (R_s S58 230 t _) hfe rfl
          exact ⟨rfl, rfl, _, _, ⟨hc1, hF⟩, hf1⟩
end OrderN

