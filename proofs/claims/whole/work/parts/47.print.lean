/-! ===== sheets are printed ===== -/
def newS (A : AS) : AS := (fun r i k m => if r = 0 then (if i = 2 ∧ k = 0 ∧ m = 0 then aNs A + 1 else A.1 0 i k m) else if i = aNs A ∧ (r = 8 ∨ r = 9 ∨ r = 11) then (if r = 8 then 1 else 0) else A.1 r i k m, A.2)
def trL (j : Nat) (A : AS) : Nat → AS × Nat → AS × Nat
  | 0, s => s
  | k + 1, s => cpL j (tnA A k) (aLen A (aOb A (tnA A k))) (aNc A (tnA A k)) (trL j A k s)
def pr1 (A : AS) : AS := (trL (aNs A) (newS A) (aNo A) (newS A, 0)).1
def prI (A : AS) : Nat → AS
  | 0 => A
  | n + 1 => pr1 (prI A n)
def prN (A : AS) (n : Nat) : Nat := if (allN A (aNo A) + 7) / 8 < n then (allN A (aNo A) + 7) / 8 else n
def oPrint (A : AS) (n : Int32) : OP := if rgb n 1 10 = true then (if 50 < aNs A + prN A (ii n) then (2, 0, A) else (0, nI (prN A (ii n)), prI A (prN A (ii n)))) else (1, 0, A)
theorem tnA_cong {A A' : AS} (e0 : aNo A' = aNo A) (e1 : A'.1 1 = A.1 1) (e2 : A'.1 2 = A.1 2) (p0 : A'.2 0 = A.2 0) (p1 : A'.2 1 = A.2 1) (p2 : A'.2 2 = A.2 2) : ∀ k, tnA A' k = tnA A k := by
  intro k
  have h : ∀ o, aOb A' o = aOb A o := fun o => by unfold aOb; rw [e2]
  have hl : ∀ i, aLen A' i = aLen A i := by
    intro i
    unfold aLen aRow aSz aPs aBt aCv
    rw [e1, p0, p1, p2]
  have hq : ∀ i j, ahQ A' i j = ahQ A i j := by
    intro i j
    unfold ahQ
    rw [h, h, hl, hl]
  have hr : rkA A' = rkA A := by
    funext o
    unfold rkA
    rw [e0]
    exact ct_cong _ (fun i _ => hq i o)
  unfold tnA
  rw [e0, hr]
theorem newS_r {A : AS} {r : Nat} (h0 : r ≠ 0) (h8 : r ≠ 8) (h9 : r ≠ 9) (h11 : r ≠ 11) : (newS A).1 r = A.1 r := by
  funext i k m
  show (if r = 0 then _ else if i = aNs A ∧ (r = 8 ∨ r = 9 ∨ r = 11) then _ else A.1 r i k m) = _
  rw [if_neg h0, if_neg (fun z => by omega)]
theorem newS_o {A : AS} {r i : Nat} (h0 : r ≠ 0) (h : i ≠ aNs A) : (newS A).1 r i = A.1 r i := by
  funext k m
  show (if r = 0 then _ else if i = aNs A ∧ (r = 8 ∨ r = 9 ∨ r = 11) then _ else A.1 r i k m) = _
  rw [if_neg h0, if_neg (fun z => h z.1)]
theorem newS_len {A : AS} (i : Nat) : aLen (newS A) i = aLen A i := by
  unfold aLen aRow aSz aPs aBt aCv
  rw [newS_r (by decide) (by decide) (by decide) (by decide)]
  rfl
theorem newS_ob {A : AS} (o : Nat) : aOb (newS A) o = aOb A o := by unfold aOb; rw [newS_r (by decide) (by decide) (by decide) (by decide)]
theorem newS_nc {A : AS} (o : Nat) : aNc (newS A) o = aNc A o := by unfold aNc; rw [newS_r (by decide) (by decide) (by decide) (by decide)]
theorem newS_8 {A : AS} : aWt (newS A) (aNs A) = 1 := by
  show (if aNs A = aNs A ∧ ((8 : Nat) = 8 ∨ (8 : Nat) = 9 ∨ (8 : Nat) = 11) then (if (8 : Nat) = 8 then 1 else 0) else _) = 1
  rw [if_pos ⟨rfl, by decide⟩, if_pos rfl]
theorem newS_9 {A : AS} : aTr (newS A) (aNs A) = 0 := by
  show (if aNs A = aNs A ∧ ((9 : Nat) = 8 ∨ (9 : Nat) = 9 ∨ (9 : Nat) = 11) then (if (9 : Nat) = 8 then 1 else 0) else _) = 0
  rw [if_pos ⟨rfl, by decide⟩, if_neg (by decide)]
theorem newS_11 {A : AS} (x : Nat) : aLi (newS A) (aNs A) x = 0 := by
  show (if aNs A = aNs A ∧ ((11 : Nat) = 8 ∨ (11 : Nat) = 9 ∨ (11 : Nat) = 11) then (if (11 : Nat) = 8 then 1 else 0) else _) = 0
  rw [if_pos ⟨rfl, by decide⟩, if_neg (by decide)]
section PrintA
variable {l : Launch} {G : GG} {S S' : PS} {tg : TG} {W : WT} {A A' : AS} {t nl : Nat}
theorem CLo.mo (h : CLo G S tg W A) (e0 : aNo A' = aNo A) (e1 : aNs A ≤ aNs A') (e2 : A'.1 2 = A.1 2) (e3 : A'.1 3 = A.1 3) (e4 : A'.1 4 = A.1 4) (e5 : A'.1 5 = A.1 5) (e6 : A'.1 6 = A.1 6) (p3 : A'.2 3 = A.2 3) : CLo G S tg W A' := by
  obtain ⟨h1, h2, h3, h4⟩ := h
  refine ⟨by rw [e0]; exact h1, h2, h3, fun o ho => ?_⟩
  rw [e0] at ho
  obtain ⟨g1, g2, g3, g4, g5⟩ := h4 o ho
  have o2 : aOb A' o = aOb A o := by unfold aOb; rw [e2]
  have o3 : aNc A' o = aNc A o := by unfold aNc; rw [e3]
  refine ⟨by rw [o2, o3]; exact g1, g2, g3, g4, fun c hc => ?_⟩
  rw [o3] at hc
  obtain ⟨c1, c2, c3, c4⟩ := g5 c hc
  have o4 : aBd A' o c = aBd A o c := by unfold aBd; rw [e4]
  refine ⟨c1, c2, by rw [o4]; exact c3, fun f hf => ?_⟩
  have o5 : aHl A' o c f = aHl A o c f := by unfold aHl; rw [e5]
  have o6 : aLs A' o c f = aLs A o c f := by unfold aLs; rw [e6]
  have o7 : aPos A' o c f = aPos A o c f := by unfold aPos; rw [p3]
  unfold LF1
  rw [o5, o6, o7]
  rcases c4 f hf with z | ⟨d0, y, hy, d1, d2, d3⟩
  · exact Or.inl z
  · exact Or.inr ⟨d0, y, hy, d1, Nat.lt_of_lt_of_le d2 e1, d3⟩
theorem VU.nws (h : VU A) (h50 : aNs A < 50) : VU (newS A) := by
  obtain ⟨v1, v2, v3, v4, v5, v6, v7, v8, v9, v10, v11⟩ := h
  have e1 : (newS A).1 1 = A.1 1 := newS_r (by decide) (by decide) (by decide) (by decide)
  have e4 : (newS A).1 4 = A.1 4 := newS_r (by decide) (by decide) (by decide) (by decide)
  have e5 : (newS A).1 5 = A.1 5 := newS_r (by decide) (by decide) (by decide) (by decide)
  have e6 : (newS A).1 6 = A.1 6 := newS_r (by decide) (by decide) (by decide) (by decide)
  have e7 : (newS A).1 7 = A.1 7 := newS_r (by decide) (by decide) (by decide) (by decide)
  have e10 : (newS A).1 10 = A.1 10 := newS_r (by decide) (by decide) (by decide) (by decide)
  refine ⟨v1, v2, h50, v4, fun i hi => ?_, fun o ho => ?_, fun o ho c => ?_, ?_, fun j hj => ?_, fun k => ?_, fun o ho c f hf => ?_⟩
  · have := v5 i hi
    simp only [aSz, aPs, aBt, aCv, e1] at this ⊢
    exact this
  · rw [newS_ob, newS_nc]
    exact v6 o ho
  · have := v7 o ho c
    simp only [aBd, e4] at this ⊢
    exact this
  · unfold aFd at v8 ⊢
    rw [e7]
    exact v8
  · have hj' : j < aNs A + 1 := hj
    by_cases hz : j = aNs A
    · rw [hz, newS_8, newS_9]
      exact ⟨Nat.le_refl _, by decide, fun _ => rfl⟩
    · have := v9 j (by omega)
      have w8 : aWt (newS A) j = aWt A j := by unfold aWt; rw [newS_o (by decide) hz]
      have w9 : aTr (newS A) j = aTr A j := by unfold aTr; rw [newS_o (by decide) hz]
      rw [w8, w9]
      exact this
  · have := v10 k
    simp only [aDl, e10] at this ⊢
    exact this
  · have := v11 o ho c f hf
    have w5 : aHl (newS A) o c f = aHl A o c f := by unfold aHl; rw [e5]
    have w6 : aLs (newS A) o c f = aLs A o c f := by unfold aLs; rw [e6]
    rw [w5, w6, newS_nc]
    exact ⟨this.1, fun z => ⟨(this.2 z).1, Nat.lt_succ_of_lt (this.2 z).2.1, (this.2 z).2.2⟩⟩
set_option maxHeartbeats 1000000 in
/-- a new sheet, not in the list yet -/
theorem CL.nws {q a : Nat} (h : CL G S tg W A t) (h50 : aNs A < 50) (hx : Ex S S' x2 x2 x0 x0) (hg : gE G ∉ pL S') (hq : q ∉ pL S) (ha : a ∉ pL S) (hsh : isSh S' q a) (hc : ∀ i, pB S' a i = none) (i4 : pI S' 194 q = nI 1) (i5 : pI S' 195 q = -1) (r3 : pR S' 193 q = some (wFo W)) :
    ∃ tg' W', CLn G S' tg' W' (newS A) t (aNs A) ∧ VF (newS A) ∧ FrC tg S S' tg' ∧ W' 0 = W 0 ∧ W' 10 (aNs A) 0 = q ∧ W' 14 (aNs A) = aFd A ∧ ∀ o, W' 6 o = W 6 o := by
  obtain ⟨⟨hv, hb, ho, hs, hr⟩, hF⟩ := h
  have hne : q ≠ a := fun z => by
    have h1 := hsh.1.2
    have h2 := hsh.2.2.1.2
    rw [z, h2] at h1
    exact absurd h1 (by decide)
  obtain ⟨tg', etg⟩ : ∃ z, z = tgx S tg (fun y => if y = q then 1100 + aNs A else 1000 + aNs A) := ⟨_, rfl⟩
  have ht : ∀ y, y ∈ pL S → tg' y = tg y := by rw [etg]; exact tgx_o
  have tq : tg' q = 1100 + aNs A := by rw [etg, tgx_n hq, if_pos rfl]
  have ta : tg' a = 1000 + aNs A := by rw [etg, tgx_n ha, if_neg (fun z => hne z.symm)]
  obtain ⟨W', eW⟩ : ∃ z, z = uWf (uW (uW (uW (uW W 10 (aNs A) q) 11 (aNs A) a) 12 (aNs A) (wFo W)) 13 (aNs A) (wFa W)) 14 (aNs A) (aFd A) := ⟨_, rfl⟩
  have w10 : W' 10 (aNs A) 0 = q := by rw [eW]; simp [uW, uWf]
  have w11 : W' 11 (aNs A) 0 = a := by rw [eW]; simp [uW, uWf]
  have w12 : W' 12 (aNs A) 0 = wFo W := by rw [eW]; simp [uW, uWf]
  have w13 : W' 13 (aNs A) 0 = wFa W := by rw [eW]; simp [uW, uWf]
  have w14 : W' 14 (aNs A) = aFd A := by rw [eW]; funext k; simp [uW, uWf]
  have wo : ∀ r i, i ≠ aNs A → W' r i = W r i := by
    intro r i hi
    rw [eW]
    funext k
    simp only [uW, uWf, if_neg hi, ite_self]
  have wr : ∀ r, r < 10 → W' r = W r := by
    intro r hr
    rw [eW]
    funext i k
    simp only [uW, uWf, if_neg (show ¬ r = 14 by omega), if_neg (show ¬ r = 13 by omega), if_neg (show ¬ r = 12 by omega), if_neg (show ¬ r = 11 by omega), if_neg (show ¬ r = 10 by omega)]
  have b1 := hb.ex hv hx ht hg (fun _ _ _ z => z) (fun _ _ _ z => z) (fun _ _ _ z => z) (fun z => z) (fun z => z) (fun _ _ _ z => z)
  have o1 := ho.ex hv hs.sc hx ht hg (fun _ _ _ _ z => z) (fun _ _ _ _ z => z) (fun _ _ _ z => z) (fun _ _ z => z) (fun _ _ z => z)
  have s1 := hs.ex hv ho.lv hx ht hg (fun _ _ _ _ z => z) (fun _ _ _ z => z) (fun _ _ z => z) (fun _ _ _ z => z) (fun z => z) (fun z => z)
  have r1 := hr.ex hx ht (fun _ _ _ z => z) (fun _ _ _ z => z) (fun _ _ z => z)
  have er : ∀ r, r ≠ 0 → r ≠ 8 → r ≠ 9 → r ≠ 11 → (newS A).1 r = A.1 r := fun r h0 h8 h9 h11 => newS_r h0 h8 h9 h11
  refine ⟨tg', W', ⟨hv.nws h50, ?_, ?_, ?_, ?_⟩, ?_, FrC.of hx ht (fun _ _ z => z.elim) (fun _ _ z => z.elim) (fun _ z => z.elim), wr 0 (by decide), w10, w14, fun o => by rw [wr 6 (by decide)]⟩
  · refine CLb.cA (A := A) (CLb.cW (W := W) b1 (fun i hi => by rw [wr 0 (by decide)]) (fun i hi => ?_)) rfl (er 1 (by decide) (by decide) (by decide) (by decide)) rfl rfl rfl
    rw [wr 1 (by decide), wr 2 (by decide), wr 3 (by decide), wr 4 (by decide), wr 5 (by decide)]
    exact ⟨rfl, rfl, rfl, rfl, rfl⟩
  · refine CLo.mo (A := A) (CLo.cW (W := W) o1 hv (fun i hi => by rw [wr 0 (by decide)]) (fun i hi => by rw [wr 1 (by decide)]) (fun o hoo => ?_) (fun j hj => ⟨wo 10 j (by omega), wo 11 j (by omega)⟩)) rfl (Nat.le_succ _) (er 2 (by decide) (by decide) (by decide) (by decide)) (er 3 (by decide) (by decide) (by decide) (by decide)) (er 4 (by decide) (by decide) (by decide) (by decide)) (er 5 (by decide) (by decide) (by decide) (by decide)) (er 6 (by decide) (by decide) (by decide) (by decide)) rfl
    rw [wr 6 (by decide), wr 7 (by decide), wr 8 (by decide), wr 9 (by decide)]
    exact ⟨rfl, rfl, rfl, rfl⟩
  · have s2 := CLs.cW (W := W) (W' := W') s1 (Nat.le_refl _) (fun i hi => by rw [wr 0 (by decide)]) (fun o hoo => by rw [wr 9 (by decide)]) (fun j hj => ⟨wo 10 j (by omega), wo 11 j (by omega), wo 12 j (by omega), wo 13 j (by omega), wo 14 j (by omega)⟩)
    obtain ⟨h1, h2, h3, h4⟩ := s2
    refine ⟨h1, h2, h3, fun j hj => ?_⟩
    have hj' : j < aNs A + 1 := hj
    by_cases hz : j = aNs A
    · subst hz
      unfold SH1 CE1
      rw [newS_8, newS_9]
      show isSh S' (W' 10 (aNs A) 0) (W' 11 (aNs A) 0) ∧ tg' (W' 10 (aNs A) 0) = _ ∧ tg' (W' 11 (aNs A) 0) = _ ∧ pR S' 193 (W' 10 (aNs A) 0) = some (W' 12 (aNs A) 0) ∧ isFd S' (W' 12 (aNs A) 0) (W' 13 (aNs A) 0) (W' 14 (aNs A)) ∧ tg' (W' 13 (aNs A) 0) = 5 ∧ pI S' 194 (W' 10 (aNs A) 0) = _ ∧ pI S' 195 (W' 10 (aNs A) 0) = _ ∧ ∀ x, x < 8 → (aLi (newS A) (aNs A) x = 0 ∧ pB S' (W' 11 (aNs A) 0) x = none) ∨ _
      rw [w10, w11, w12, w13, w14]
      exact ⟨hsh, tq, ta, r3, r1.2.2.2.2.2.2.2.2.2.2.2.2.2.2.2.2.2.2.2.2.1, r1.2.2.2.2.2.2.2.2.2.2.2.2.2.2.2.2.2.2.2.2.2, i4, i5, fun x _ => Or.inl ⟨newS_11 x, hc x⟩⟩
    · obtain ⟨g1, g2, g3, g4, g5, g6, g7, g8, g9⟩ := h4 j (by omega)
      have w8 : aWt (newS A) j = aWt A j := by unfold aWt; rw [newS_o (by decide) hz]
      have w9 : aTr (newS A) j = aTr A j := by unfold aTr; rw [newS_o (by decide) hz]
      have w11' : ∀ x, aLi (newS A) j x = aLi A j x := fun x => by unfold aLi; rw [newS_o (by decide) hz]
      refine ⟨g1, g2, g3, g4, g5, g6, by rw [w8]; exact g7, by rw [w9]; exact g8, fun x hx8 => ?_⟩
      unfold CE1
      rw [w11']
      rcases g9 x hx8 with z | ⟨y, o, c, f, hy, ky, ry, h101, hoo, hcc, hff, q1, q2, q3, q4, q5⟩
      · exact Or.inl z
      · exact Or.inr ⟨y, o, c, f, hy, ky, ry, h101, hoo, by rw [newS_nc]; exact hcc, hff, q1, q2, q3, q4, q5⟩
  · refine CLr.cA (A := A) (CLr.cW (W := W) r1 (wr 0 (by decide))) rfl rfl (fun k => ?_) (er 10 (by decide) (by decide) (by decide) (by decide))
    rw [er 7 (by decide) (by decide) (by decide) (by decide)]
  · intro o hoo c f hf h1 h2
    have w5 : aHl (newS A) o c f = aHl A o c f := by unfold aHl; rw [er 5 (by decide) (by decide) (by decide) (by decide)]
    have w4 : aBd (newS A) o c = aBd A o c := by unfold aBd; rw [er 4 (by decide) (by decide) (by decide) (by decide)]
    rw [w5] at h1
    rw [w4] at h2
    rw [newS_ob, newS_len]
    exact hF o hoo c f hf h1 h2
abbrev rmP (k n : Nat) : Room := { frames := 9, cells := k, slots := n, locals := 300 }
set_option maxRecDepth 100000 in
set_option maxHeartbeats 2000000 in
theorem c_printSheet (hl : l.stackTraces = false) (h : CL G S tg W A t) (h50 : aNs A < 50) (hut : ∀ k, k < aNo A → pA S (wUt W) k = nI (tnA A k)) :
    MT l G S yX7_printSheet cX7_printSheet 5 (some (.object "Thumbreel$Sheet")) (rmP 42 252) [va_rf (some t)]
      (fun v S' => ∃ tg' W', v = some (va_rf (some (wSh W' (aNs A)))) ∧ CLn G S' tg' W' (pr1 A) t (aNs A) ∧ VF (pr1 A) ∧ FrC tg S S' tg' ∧ W' 0 = W 0 ∧ sameA (newS A) (pr1 A) ∧ pA S' (wUt W) = pA S (wUt W)) (fun _ => False) := by
  obtain ⟨⟨hv, hb, ho, hs, hr⟩, hF⟩ := id h
  have h5 := hv.2.1
  refine MT_of (by decide +kernel) hl rfl (Nat.le_of_ble_eq_true rfl) (fun Z hC hzl hnm hT hQ => ?_)
  change J G Z S 0 0 0 [some (va_rf (some t)), none, none, none, none] []
  have hzs : (zl Z).stackTraces = false := by rw [hzl]; exact hl
  refine r_new hC nw_X7_174 dX7_printSheet_0 (Nat.le_of_ble_eq_true rfl) (Nat.le_of_ble_eq_true rfl) (fun q0 hq0 hg0 => ?_)
  have hr5 : pR (sO S q0 6) 230 t = some (wFo W) := ((Ex.newO (XI := x2) (XR := x2) (XA := x0) (XB := x0) hq0 t hr.1.1).2.2.2.2.1 230 (fun z => z)).trans hr.2.2.2.2.2.2.2.1
  refine r_dup hC dX7_printSheet_3 rfl ?_
  refine r_aload_n hC dX7_printSheet_4 rfl rfl ?_
  refine r_getR  hC fl_X7_41 dX7_printSheet_5 (kd_sO hr.1 hq0) (hr5) ?_
  refine r_cIN (as := [va_rf (some (wFo W))]) hC (c_Sheet_init hzs kd_newO (wFo W)) cs_X6_init q_707 q_708 rfl dX7_printSheet_8 rfl rfl ⟨Nat.le_of_ble_eq_true rfl, Nat.le_of_ble_eq_true rfl⟩ (Nat.le_of_ble_eq_true rfl) ⟨Nat.le_of_ble_eq_true rfl, Nat.le_of_ble_eq_true rfl⟩ (fun v8 S8 p8 => ?_) (fun _ x => x.elim)
  obtain ⟨rfl, a, na, hsh, hcn, i4, i5, r3, hex⟩ := p8
  have na' := nin_W na
  refine r_hge hC (fun hg8 => ?_)
  have hx1 : Ex S S8 x2 x2 x0 x0 := Ex.trM (Ex.newO hq0) hex (fun f y hy e => hq0 (e ▸ hy)) (fun f y hy e => hq0 (e ▸ hy)) (fun _ _ h => h) (fun _ _ h => h)
  obtain ⟨tg', W', hn, hvf, hfr, w0, w10, w14, w6⟩ := h.nws h50 hx1 hg8 hq0 na'.1 hsh hcn i4 i5 r3
  have hI0 : IL G S8 tg' W' t (aNs A) (aNs A) (newS A) S8 (newS A, 0) := ⟨hn, hvf, Ex.rf, sameA.rf, Nat.zero_le _, fun p _ _ => newS_11 _⟩
  have hj : aNs A < aNs (newS A) := Nat.lt_succ_self _
  have hfd : wSf W' (aNs A) = aFd (newS A) := w14.trans (by unfold aFd; rw [newS_r (by decide) (by decide) (by decide) (by decide)])
  have htn : ∀ k, tnA (newS A) k = tnA A k := tnA_cong rfl (newS_r (by decide) (by decide) (by decide) (by decide)) (newS_r (by decide) (by decide) (by decide) (by decide)) rfl rfl rfl
  have eut : ∀ S1, Ex S8 S1 x2 x2 x0 (fun _ => True) → pA S1 (wUt W) = pA S (wUt W) := by
    intro S1 hx
    have ku := hr.2.2.2.2.2.2.2.2.2.2.1
    rw [(hx _ (hx1 _ ku.1).1).2.2.2.2.2.1 (fun z => z), (hx1 _ ku.1).2.2.2.2.2.1 (fun z => z)]
  have wu : wUt W' = wUt W := by show W' 0 3 0 = W 0 3 0; rw [w0]
  have wl : wLo W' = wLo W := by show W' 0 1 0 = W 0 1 0; rw [w0]
  have loop : ∀ (d k : Nat) (S1 : PS) (o4 : Option Value) (s1 : AS × Nat), k + d = aNo A → s1 = trL (aNs A) (newS A) k (newS A, 0) → IL G S8 tg' W' t (aNs A) (aNs A) (newS A) S1 s1 →
      J G Z S1 (2 + 8 * k) (12 + 48 * k) 16 [some (va_rf (some t)), some (va_rf (some (wSh W' (aNs A)))), some (.int (nI s1.2)), some (.int (nI k)), o4] [] := by
    intro d
    induction d with
    | zero =>
      intro k S1 o4 s1 hk es hI
      have hk : k = aNo A := by omega
      subst hk
      obtain ⟨hn1, hvf1, hex1, hsm, hp, hem⟩ := id hI
      obtain ⟨hv1, hb1, ho1, hs1, hr1⟩ := id hn1
      obtain ⟨m1, m2, m3, m4, m5, m6, m7⟩ := hsm.all
      refine r_iload_n hC dX7_printSheet_16 rfl rfl ?_
      refine r_aload_n hC dX7_printSheet_17 rfl rfl ?_
      refine r_getR  hC fl_X7_16 dX7_printSheet_18 (hr1.1) (hr1.2.2.1) ?_
      refine r_cV (as := []) hC (c_size hzs ho1.1.1) cs_Jx4a65c_size_8abf5 q_201 q_202 q_203 (ho1.1.1) (by decide) rfl dX7_printSheet_21 rfl rfl ⟨Nat.le_of_ble_eq_true rfl, Nat.le_of_ble_eq_true rfl⟩ (Nat.le_of_ble_eq_true rfl) ⟨by first | exact (show 2 + 8 * aNo A + 0 ≤ 42 by omega) | exact (show 12 + 48 * aNo A + 0 ≤ 252 by omega), by first | exact (show 2 + 8 * aNo A + 0 ≤ 42 by omega) | exact (show 12 + 48 * aNo A + 0 ≤ 252 by omega)⟩ (fun v21 S21 p21 => ?_) (fun _ x => x.elim)
      obtain ⟨rfl, e21⟩ := p21
      rw [e21, ho1.1.2.1, m2]
      refine r_icge (tgt := 85) hC dX7_printSheet_24 (by decide) (fun h24 => ?_) (fun h24 => ?_)
      · refine r_aload_n hC dX7_printSheet_85 rfl rfl ?_
        refine r_aret hC hQ rfl (by first | exact Or.inl ⟨_, rfl⟩ | exact Or.inr ⟨_, rfl⟩) dX7_printSheet_86 (by first | exact (show 2 + 8 * aNo A + 0 ≤ 42 by omega) | exact (show 12 + 48 * aNo A + 0 ≤ 252 by omega)) (by first | exact (show 2 + 8 * aNo A + 0 ≤ 42 by omega) | exact (show 12 + 48 * aNo A + 0 ≤ 252 by omega)) ?_
        have ep : s1.1 = pr1 A := by rw [es]; rfl
        refine ⟨tg', W', rfl, by rw [← ep]; exact hn1, by rw [← ep]; exact hvf1, hfr.tr (FrC.of hex1 (fun _ _ => rfl) (fun _ _ z => z.elim) (fun _ _ z => z.elim) (fun _ z => z.elim)), w0, by rw [← ep]; exact hsm, eut S1 hex1⟩
      · exact absurd (nI_le (Nat.le_refl _) (by show aNo A < 2147483648; omega)) h24
    | succ d ih =>
      intro k S1 o4 s1 hk es hI
      have hkn : k < aNo A := by omega
      obtain ⟨hn1, hvf1, hex1, hsm, hp, hem⟩ := id hI
      obtain ⟨hv1, hb1, ho1, hs1, hr1⟩ := id hn1
      obtain ⟨m1, m2, m3, m4, m5, m6, m7⟩ := hsm.all
      have m2' : aNo s1.1 = aNo A := m2
      obtain ⟨kt, r0, r1, r2, r3, r4, r5, r6, i1, i2, ku, nu, tu, kd, nd, td, hd, hp2, tc, th, hf, tf⟩ := id hr1
      obtain ⟨ht1, ht2⟩ := tn_lt hkn
      have hval : pA S1 (wUt W') k = nI (tnA A k) := by rw [wu, eut S1 hex1, hut k hkn]
      have hor := (ho1.2.2.2 (tnA A k) (by rw [m2']; exact ht1)).1
      refine r_iload_n hC dX7_printSheet_16 rfl rfl ?_
      refine r_aload_n hC dX7_printSheet_17 rfl rfl ?_
      refine r_getR  hC fl_X7_16 dX7_printSheet_18 (kt) (r1) ?_
      refine r_cV (as := []) hC (c_size hzs ho1.1.1) cs_Jx4a65c_size_8abf5 q_201 q_202 q_203 (ho1.1.1) (by decide) rfl dX7_printSheet_21 rfl rfl ⟨Nat.le_of_ble_eq_true rfl, Nat.le_of_ble_eq_true rfl⟩ (Nat.le_of_ble_eq_true rfl) ⟨by first | exact (show 2 + 8 * k + 0 ≤ 42 by omega) | exact (show 12 + 48 * k + 0 ≤ 252 by omega) | exact (show 2 + 8 * k + 8 ≤ 42 by omega) | exact (show 12 + 48 * k + 48 ≤ 252 by omega), by first | exact (show 2 + 8 * k + 0 ≤ 42 by omega) | exact (show 12 + 48 * k + 0 ≤ 252 by omega) | exact (show 2 + 8 * k + 8 ≤ 42 by omega) | exact (show 12 + 48 * k + 48 ≤ 252 by omega)⟩ (fun v21 S21 p21 => ?_) (fun _ x => x.elim)
      obtain ⟨rfl, e21⟩ := p21
      rw [e21, ho1.1.2.1, m2']
      refine r_icge (tgt := 85) hC dX7_printSheet_24 (by decide) (fun h24 => ?_) (fun h24 => ?_)
      · exact absurd ((nI_leI (by omega) (by omega)).mp h24) (by omega)
      · skip
        refine r_iload_n hC dX7_printSheet_27 rfl rfl ?_
        refine r_aload_n hC dX7_printSheet_28 rfl rfl ?_
        refine r_getR  hC fl_X7_22 dX7_printSheet_29 (kt) (r3) ?_
        refine r_alen hC dX7_printSheet_32 (ku) (by decide) (by decide) (nu) ?_
        refine r_icge (tgt := 85) hC dX7_printSheet_33 (by decide) (fun h33 => ?_) (fun h33 => ?_)
        · exact absurd ((nI_leI (by omega) (by omega)).mp h33) (by omega)
        · skip
          refine r_aload_n hC dX7_printSheet_36 rfl rfl ?_
          refine r_getR  hC fl_X7_22 dX7_printSheet_37 (kt) (r3) ?_
          refine r_iload_n hC dX7_printSheet_40 rfl rfl ?_
          refine r_iald hC dX7_printSheet_41 (ku) (rfl) (by rw [nu]; omega) (by rw [nu]; decide) (hval) ?_
          refine r_istore hC dX7_printSheet_42 (by decide) ?_
          refine r_iload hC dX7_printSheet_44 rfl ?_
          refine r_iflt (tgt := 79) hC dX7_printSheet_46 (by decide) (fun h46 => ?_) (fun h46 => ?_)
          · exact absurd h46 (nI_pos (by omega))
          · skip
            refine r_iload hC dX7_printSheet_49 rfl ?_
            refine r_aload_n hC dX7_printSheet_51 rfl rfl ?_
            refine r_getR  hC fl_X7_16 dX7_printSheet_52 (kt) (r1) ?_
            refine r_cV (as := []) hC (c_size hzs ho1.1.1) cs_Jx4a65c_size_8abf5 q_201 q_202 q_203 (ho1.1.1) (by decide) rfl dX7_printSheet_55 rfl rfl ⟨Nat.le_of_ble_eq_true rfl, Nat.le_of_ble_eq_true rfl⟩ (Nat.le_of_ble_eq_true rfl) ⟨by first | exact (show 2 + 8 * k + 0 ≤ 42 by omega) | exact (show 12 + 48 * k + 0 ≤ 252 by omega) | exact (show 2 + 8 * k + 8 ≤ 42 by omega) | exact (show 12 + 48 * k + 48 ≤ 252 by omega), by first | exact (show 2 + 8 * k + 0 ≤ 42 by omega) | exact (show 12 + 48 * k + 0 ≤ 252 by omega) | exact (show 2 + 8 * k + 8 ≤ 42 by omega) | exact (show 12 + 48 * k + 48 ≤ 252 by omega)⟩ (fun v55 S55 p55 => ?_) (fun _ x => x.elim)
            obtain ⟨rfl, e55⟩ := p55
            rw [e55, ho1.1.2.1, m2']
            refine r_icge (tgt := 79) hC dX7_printSheet_58 (by decide) (fun h58 => ?_) (fun h58 => ?_)
            · exact absurd ((nI_leI (by omega) (by omega)).mp h58) (by omega)
            · skip
              refine r_aload_n hC dX7_printSheet_61 rfl rfl ?_
              refine r_getR  hC fl_X7_16 dX7_printSheet_62 (kt) (r1) ?_
              refine r_iload hC dX7_printSheet_65 rfl ?_
              refine r_cV (as := [.int (nI (tnA A k))]) hC (c_get hzs ho1.1 (i := tnA A k) (by rw [m2']; exact ht1) (by omega)) cs_Jx4a65c_get_915e3 q_205 q_206 q_207 (ho1.1.1) (by decide) rfl dX7_printSheet_67 rfl rfl ⟨Nat.le_of_ble_eq_true rfl, Nat.le_of_ble_eq_true rfl⟩ (Nat.le_of_ble_eq_true rfl) ⟨by first | exact (show 2 + 8 * k + 0 ≤ 42 by omega) | exact (show 12 + 48 * k + 0 ≤ 252 by omega) | exact (show 2 + 8 * k + 8 ≤ 42 by omega) | exact (show 12 + 48 * k + 48 ≤ 252 by omega), by first | exact (show 2 + 8 * k + 0 ≤ 42 by omega) | exact (show 12 + 48 * k + 0 ≤ 252 by omega) | exact (show 2 + 8 * k + 8 ≤ 42 by omega) | exact (show 12 + 48 * k + 48 ≤ 252 by omega)⟩ (fun v67 S67 p67 => ?_) (fun _ x => x.elim)
              obtain ⟨rfl, e67⟩ := p67
              rw [e67]
              refine r_cast hC q_479 dX7_printSheet_70 hor.1 (by decide) rfl ?_
              refine r_aload_n hC dX7_printSheet_73 rfl rfl ?_
              refine r_iload_n hC dX7_printSheet_74 rfl rfl ?_
              refine r_cVN (as := [va_rf (some (wSh W' (aNs A))), .int (nI s1.2)]) hC (c_fill hzs (o := tnA A k) hI (show tnA A k < aNo (newS A) from ht1) hj hfd) cs_X4_fill q_729 q_731 q_35 (hor.1) (by decide) rfl dX7_printSheet_75 rfl rfl ⟨Nat.le_of_ble_eq_true rfl, Nat.le_of_ble_eq_true rfl⟩ (Nat.le_of_ble_eq_true rfl) ⟨by first | exact (show 2 + 8 * k + 0 ≤ 42 by omega) | exact (show 12 + 48 * k + 0 ≤ 252 by omega) | exact (show 2 + 8 * k + 8 ≤ 42 by omega) | exact (show 12 + 48 * k + 48 ≤ 252 by omega), by first | exact (show 2 + 8 * k + 0 ≤ 42 by omega) | exact (show 12 + 48 * k + 0 ≤ 252 by omega) | exact (show 2 + 8 * k + 8 ≤ 42 by omega) | exact (show 12 + 48 * k + 48 ≤ 252 by omega)⟩ (fun v75 S75 p75 => ?_) (fun _ x => x.elim)
              obtain ⟨rfl, hI2⟩ := p75
              refine r_istore_n hC dX7_printSheet_78 rfl (by decide) ?_
              refine r_iinc hC dX7_printSheet_79 rfl (ii1 _) ?_
              refine r_goto (tgt := 16) hC dX7_printSheet_82 (by decide) ?_
              refine ih (k + 1) S75 _ _ (by omega) ?_ hI2
              show _ = cpL (aNs A) (tnA (newS A) k) (aLen (newS A) (aOb (newS A) (tnA (newS A) k))) (aNc (newS A) (tnA (newS A) k)) (trL (aNs A) (newS A) k (newS A, 0))
              rw [← es, htn]
  rw [show q0 = wSh W' (aNs A) from w10.symm]
  refine r_astore_n hC dX7_printSheet_11 rfl (by decide) ?_
  refine r_iconst (v := nI 0) hC dX7_printSheet_12 (by decide) ?_
  refine r_istore_n hC dX7_printSheet_13 rfl (by decide) ?_
  refine r_iconst (v := nI 0) hC dX7_printSheet_14 (by decide) ?_
  refine r_istore_n hC dX7_printSheet_15 rfl (by decide) ?_
  exact loop (aNo A) 0 S8 none (newS A, 0) (by omega) rfl hI0
theorem sameA.tn (h : sameA (newS A) A') : ∀ k, tnA A' k = tnA A k := by
  have r1 : (newS A).1 1 = A.1 1 := newS_r (by decide) (by decide) (by decide) (by decide)
  have r2 : (newS A).1 2 = A.1 2 := newS_r (by decide) (by decide) (by decide) (by decide)
  exact tnA_cong (h.all.2.1) ((h.1 1 (by decide) (by decide) (by decide)).trans r1) ((h.1 2 (by decide) (by decide) (by decide)).trans r2) (h.2 0 (by decide)) (h.2 1 (by decide)) (h.2 2 (by decide))
/-- the printed sheet goes into the list -/
theorem CLn.add (h : CLn G S tg W A t nl) (hj : nl < aNs A) (hg : gE G ∉ pL S) (hadd : added G S S' (wLs W) nl 6 (wSh W) (wSh W nl)) (hg' : gE G ∉ pL S') :
    CLn G S' (tgx S tg (fun _ => 23)) W A t (nl + 1) ∧ FrC tg S S' (tgx S tg (fun _ => 23)) ∧ pA S' (wUt W) = pA S (wUt W) := by
  obtain ⟨hv, hb, ho, hs, hr⟩ := h
  obtain ⟨ha1, hx, ha3⟩ := hadd
  have ht : ∀ y, y ∈ pL S → tgx S tg (fun _ => 23) y = tg y := tgx_o
  have arrL : ∀ y, y ∈ pL S → pR S 289 (wLs W) = some y → tg y = 23 := fun y hy z => hs.2.2.1 y z hy
  have t13 := hs.2.1
  refine ⟨⟨hv, ?_, ?_, ?_, ?_⟩, FrC.of hx ht (fun f y z => by omega) (fun f y z => by omega) (fun _ z => z.elim), (hx _ hr.2.2.2.2.2.2.2.2.2.2.1.1).2.2.2.2.2.1 (fun z => z)⟩
  · exact hb.ex hv hx ht hg' (fun f y h z => by omega) (fun f y h z => by omega) (fun _ _ _ z => z) (fun z => by have := hb.2.1; rw [z.1] at this; omega) (fun z => by have := hb.2.1; rw [z.1] at this; omega) (fun y hy h z => by have := arrL y hy z; omega)
  · exact ho.ex hv hs.sc hx ht hg' (fun f y h1 h2 z => by omega) (fun f y h1 h2 z => by omega) (fun y hy h z => by have := arrL y hy z; omega) (fun y h z => by rw [z.1] at h; omega) (fun y h z => by rw [z.1] at h; omega)
  · refine ⟨ha1.cong (fun i hi => ?_), (ht _ hs.1.1.1).trans t13, fun arr h1 h2 => ?_, fun j hj => ?_⟩
    · show wSh W i = if i = nl then wSh W nl else wSh W i
      by_cases hz : i = nl
      · rw [if_pos hz, hz]
      · rw [if_neg hz]
    · rcases ha3 arr h1 with z | z
      · by_cases hin : arr ∈ pL S
        · exact (ht arr hin).trans (arrL arr hin z)
        · exact tgx_n hin
      · exact tgx_n z
    · exact (hs.2.2.2 j hj).ex (by have := hv.2.2.1; omega) hv ho.lv hx ht (fun f y h z => by omega) (fun f y h z => by omega) (fun _ _ z => z) (fun y hy h1 h2 z => by have := arrL y hy z; omega)
  · exact hr.ex hx ht (fun f y h z => by omega) (fun f y h z => by omega) (fun _ _ z => z)
end PrintA

