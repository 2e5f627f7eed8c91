/-! ===== the calls on books ===== -/
def ixb (i : Int32) (m : Nat) : Bool := decide (0 ≤ i.toInt ∧ i.toInt < (m : Int))
def ii (i : Int32) : Nat := i.toInt.toNat
def rgb (x : Int32) (a b : Nat) : Bool := decide (nI a ≤ x ∧ x ≤ nI b)
theorem ii_n {j : Nat} (h : j < 2147483648) : ii (nI j) = j := by unfold ii; rw [nI_toInt h]; rfl
theorem ixb_t {j m : Nat} (hj : j < m) (hm : m < 2147483648) : ixb (nI j) m = true := by
  unfold ixb
  rw [nI_toInt (by omega)]
  exact decide_eq_true ⟨by omega, by omega⟩
theorem ixb_f {i : Int32} {m : Nat} (h : ¬ ixo i m) : ixb i m = false := by
  refine decide_eq_false (fun ⟨h1, h2⟩ => h ?_)
  have h0 : ¬ i < 0 := fun z => by
    have := Int32.lt_iff_toInt_lt.mp z
    simp at this
    omega
  obtain ⟨j, hj, rfl⟩ := nI_of h0
  rw [nI_toInt hj] at h2
  exact ⟨j, by omega, rfl⟩
theorem rgb_t {x : Int32} {a b : Nat} (h1 : nI a ≤ x) (h2 : x ≤ nI b) : rgb x a b = true := decide_eq_true ⟨h1, h2⟩
theorem rgb_f {x : Int32} {a b : Nat} (h : ¬ (nI a ≤ x ∧ x ≤ nI b)) : rgb x a b = false := decide_eq_false h
theorem rgb_n {x : Int32} {b : Nat} (hb : b < 2147483648) (h1 : nI 0 ≤ x) (h2 : x ≤ nI b) : ∃ j, j ≤ b ∧ x = nI j := nI_of2 (M := nI b) (nI_toInt hb) (Int32.not_lt.mpr h1) h2
/-- an exception leaves an operation -/
def XO (A : AS) (r : OP) (es : List String) : String → Prop := fun E => ∃ k, r = (k + 1, 0, A) ∧ es[k]? = some E
def bkA (A : AS) (i : Nat) (f1 f2 f3 : Nat → Int32) (n : Nat) : AS := uP (uP (uP (uD A 1 i 0 0 n) 0 i f1) 1 i f2) 2 i f3
theorem bkA_sz {A : AS} {i : Nat} {f1 f2 f3 : Nat → Int32} {n : Nat} : aSz (bkA A i f1 f2 f3 n) i = n ∧ aPs (bkA A i f1 f2 f3 n) i = f1 ∧ aBt (bkA A i f1 f2 f3 n) i = f2 ∧ aCv (bkA A i f1 f2 f3 n) i = f3 := by
  simp [bkA, uP, uD, aSz, aPs, aBt, aCv]
theorem bkA_o {A : AS} {i j : Nat} {f1 f2 f3 : Nat → Int32} {n : Nat} (h : j ≠ i) : aSz (bkA A i f1 f2 f3 n) j = aSz A j ∧ aPs (bkA A i f1 f2 f3 n) j = aPs A j ∧ aBt (bkA A i f1 f2 f3 n) j = aBt A j ∧ aCv (bkA A i f1 f2 f3 n) j = aCv A j := by
  simp [bkA, uP, uD, h, aSz, aPs, aBt, aCv]
theorem bkA_row {A : AS} {i : Nat} {f1 f2 f3 : Nat → Int32} {n : Nat} : aRow (bkA A i f1 f2 f3 n) i = frs f1 f2 f3 n n := by
  obtain ⟨h1, h2, h3, h4⟩ := bkA_sz (A := A) (i := i) (f1 := f1) (f2 := f2) (f3 := f3) (n := n)
  unfold aRow
  rw [h1, h2, h3, h4]
theorem bkA_rowo {A : AS} {i j : Nat} {f1 f2 f3 : Nat → Int32} {n : Nat} (h : j ≠ i) : aRow (bkA A i f1 f2 f3 n) j = aRow A j := by
  obtain ⟨h1, h2, h3, h4⟩ := bkA_o (A := A) (i := i) (f1 := f1) (f2 := f2) (f3 := f3) (n := n) h
  unfold aRow
  rw [h1, h2, h3, h4]
theorem bkU_ex {S : PS} {b p e c r nd : Nat} {f1 f2 f3 g : Nat → Int32} : Ex S (bkU S b p e c r f1 f2 f3 nd g) (fun f y => y = b ∧ (f = 4 ∨ f = 5)) x2 (fun y => y = p ∨ y = e ∨ y = c ∨ y = r) x0 := by
  unfold bkU bkS bkD
  refine Ex.tI ?_ (Or.inl ⟨rfl, Or.inr rfl⟩)
  refine Ex.tA ?_ (Or.inl (Or.inr (Or.inr (Or.inr rfl))))
  refine Ex.tI ?_ (Or.inl ⟨rfl, Or.inl rfl⟩)
  refine Ex.tA ?_ (Or.inl (Or.inr (Or.inr (Or.inl rfl))))
  refine Ex.tA ?_ (Or.inl (Or.inr (Or.inl rfl)))
  refine Ex.tA ?_ (Or.inl (Or.inl rfl))
  exact Ex.rf
theorem pL_bkU {S : PS} {b p e c r nd : Nat} {f1 f2 f3 g : Nat → Int32} : pL (bkU S b p e c r f1 f2 f3 nd g) = pL S := rfl
theorem VU.bk {A : AS} (h : VU A) {i n : Nat} {f1 f2 f3 : Nat → Int32} (h8 : n ≤ 8) (hV : VB f1 f2 f3 n) : VU (bkA A i f1 f2 f3 n) := by
  obtain ⟨v1, v2, v3, v4, v5, v6, v7, v8, v9, v10, v11⟩ := h
  refine ⟨v1, v2, v3, v4, fun j hj => ?_, v6, v7, v8, v9, v10, v11⟩
  by_cases hji : j = i
  · subst hji
    obtain ⟨h1, h2, h3, h4⟩ := bkA_sz (A := A) (i := j) (f1 := f1) (f2 := f2) (f3 := f3) (n := n)
    rw [h1, h2, h3, h4]
    exact ⟨h8, hV⟩
  · obtain ⟨h1, h2, h3, h4⟩ := bkA_o (A := A) (i := i) (f1 := f1) (f2 := f2) (f3 := f3) (n := n) hji
    rw [h1, h2, h3, h4]
    exact v5 j hj
theorem tgne {x i j : Nat} (hji : j ≠ i) (hi : i < 4) (hj : j < 4) (h : x = 200 + j ∨ x = 300 + j ∨ x = 400 + j ∨ x = 500 + j) (h' : x = 200 + i ∨ x = 300 + i ∨ x = 400 + i ∨ x = 500 + i) : False := by omega
theorem tgne2 {x i j : Nat} (hji : j ≠ i) (h : x = 100 + j) (h' : x = 100 + i) : False := by omega
theorem tgne3 {x i : Nat} (hi : i < 4) (h' : x = 200 + i ∨ x = 300 + i ∨ x = 400 + i ∨ x = 500 + i) : x ≠ 0 ∧ x ≠ 2 ∧ x ≠ 5 := by omega
section BooksA
variable {l : Launch} {G : GG} {S : PS} {tg : TG} {W : WT} {A : AS} {t i : Nat}
set_option maxHeartbeats 1000000 in
theorem CLn.bkP {nl n : Nat} {f1 f2 f3 g : Nat → Int32} (h : CLn G S tg W A t nl) (hg : gE G ∉ pL S) (hi : i < aNb A) (h8 : n ≤ 8) (hV : VB f1 f2 f3 n) (hh : holds g (frs f1 f2 f3 n n)) :
    CLn G (bkU S (wBk W i) (wBp W i) (wBe W i) (wBc W i) (wBr W i) f1 f2 f3 n g) tg W (bkA A i f1 f2 f3 n) t nl := by
  obtain ⟨hv, hb, ho, hs, hr⟩ := h
  obtain ⟨bb, t1, t2, t3, t4, t5, b6, b7, b8, b9, b10, b11⟩ := hb.2.2.2 i hi
  have hn4 := hv.1
  have hi4 : i < 4 := Nat.lt_of_lt_of_le hi hn4
  have hx : Ex S (bkU S (wBk W i) (wBp W i) (wBe W i) (wBc W i) (wBr W i) f1 f2 f3 n g) (fun f y => y = wBk W i ∧ (f = 4 ∨ f = 5)) x2 (fun y => y = wBp W i ∨ y = wBe W i ∨ y = wBc W i ∨ y = wBr W i) x0 := bkU_ex
  have hg' : gE G ∉ pL (bkU S (wBk W i) (wBp W i) (wBe W i) (wBc W i) (wBr W i) f1 f2 f3 n g) := by rw [pL_bkU]; exact hg
  have htg : ∀ y, (y = wBp W i ∨ y = wBe W i ∨ y = wBc W i ∨ y = wBr W i) → tg y = 200 + i ∨ tg y = 300 + i ∨ tg y = 400 + i ∨ tg y = 500 + i := by
    rintro y (rfl | rfl | rfl | rfl)
    · exact Or.inl t2
    · exact Or.inr (Or.inl t3)
    · exact Or.inr (Or.inr (Or.inl t4))
    · exact Or.inr (Or.inr (Or.inr t5))
  obtain ⟨lb, tlb⟩ := hb.1.exT hb.2.2.1 hx (fun _ _ => rfl) hg' (fun z => by omega) (fun z => z) (fun _ _ _ z => z)
  refine ⟨hv.bk h8 hV, ⟨lb, hb.2.1, tlb, fun j hj => ?_⟩, ?_, ?_, ?_⟩
  · by_cases hji : j = i
    · subst hji
      obtain ⟨x1, x2, x3, x4, x5, x6⟩ := bb.2.2.2.2.2.2.2.2.2.2.2.2.2
      obtain ⟨h1, h2, h3, h4⟩ := bkA_sz (A := A) (i := j) (f1 := f1) (f2 := f2) (f3 := f3) (n := n)
      refine ⟨bb.ex hx (fun _ _ z => z), t1, t2, t3, t4, t5, ?_, ?_, ?_, ?_, ?_, ?_⟩
      · rw [h1]
        unfold bkU bkS
        rw [I_f _ _ _ _ (by decide)]
        exact I_s (bkD S (wBp W j) (wBe W j) (wBc W j) f1 f2 f3) 4 (wBk W j) (nI n)
      · unfold aLen
        rw [bkA_row]
        exact I_s _ _ _ _
      · rw [h2]
        show pA (sA (bkD S _ _ _ f1 f2 f3) (wBr W j) g) (wBp W j) = f1
        rw [A_n _ _ x3, bkD_p x1 x2]
      · rw [h3]
        show pA (sA (bkD S _ _ _ f1 f2 f3) (wBr W j) g) (wBe W j) = f2
        rw [A_n _ _ x5, bkD_e x4]
      · rw [h4]
        show pA (sA (bkD S _ _ _ f1 f2 f3) (wBr W j) g) (wBc W j) = f3
        rw [A_n _ _ x6, bkD_c]
      · rw [bkA_row]
        show holds (pA (sA (bkD S _ _ _ f1 f2 f3) (wBr W j) g) (wBr W j)) _
        rw [A_s]
        exact hh
    · have hk := hb.2.2.2 j hj
      obtain ⟨h1, h2, h3, h4⟩ := bkA_o (A := A) (i := i) (f1 := f1) (f2 := f2) (f3 := f3) (n := n) hji
      obtain ⟨cb, s1, s2, s3, s4, s5, c6, c7, c8, c9, c10, c11⟩ := hk
      have hj4 : j < 4 := Nat.lt_of_lt_of_le hj hn4
      have ne : ∀ y, (tg y = 200 + j ∨ tg y = 300 + j ∨ tg y = 400 + j ∨ tg y = 500 + j) → ¬ (y = wBp W i ∨ y = wBe W i ∨ y = wBc W i ∨ y = wBr W i) := by
        exact fun y h z => tgne hji hi4 hj4 h (htg y z)
      have hne : ∀ f, ¬ (wBk W j = wBk W i ∧ (f = 4 ∨ f = 5)) := by
        intro f z
        exact tgne2 hji (z.1 ▸ s1) t1
      have eb := hx _ cb.1.1
      have ep := hx _ cb.2.2.2.2.2.1.1
      have ee := hx _ cb.2.2.2.2.2.2.2.1.1
      have ec := hx _ cb.2.2.2.2.2.2.2.2.2.1.1
      have er := hx _ cb.2.2.2.2.2.2.2.2.2.2.2.1.1
      refine ⟨cb.ex hx (fun _ _ z => z), s1, s2, s3, s4, s5, ?_, ?_, ?_, ?_, ?_, ?_⟩
      · rw [h1, eb.2.2.2.1 4 (hne 4)]; exact c6
      · unfold aLen
        rw [bkA_rowo hji, eb.2.2.2.1 5 (hne 5)]; exact c7
      · rw [h2, ep.2.2.2.2.2.1 (ne _ (Or.inl s2))]; exact c8
      · rw [h3, ee.2.2.2.2.2.1 (ne _ (Or.inr (Or.inl s3)))]; exact c9
      · rw [h4, ec.2.2.2.2.2.1 (ne _ (Or.inr (Or.inr (Or.inl s4))))]; exact c10
      · rw [bkA_rowo hji, er.2.2.2.2.2.1 (ne _ (Or.inr (Or.inr (Or.inr s5))))]; exact c11
  · refine CLo.cA (A := A) ?_ rfl rfl rfl rfl rfl rfl rfl rfl
    exact ho.ex hv hs.sc hx (fun _ _ => rfl) hg' (fun f y a b z => by omega) (fun _ _ _ _ z => z) (fun _ _ _ z => z) (fun _ _ z => by omega) (fun _ _ z => z)
  · refine CLs.cA (A := A) ?_ rfl rfl rfl rfl rfl rfl
    exact hs.ex hv ho.lv hx (fun _ _ => rfl) hg' (fun f y a z => by omega) (fun _ _ _ z => z) (fun y hy z => (tgne3 hi4 (htg y z)).2.2 hy) (fun _ _ _ z => z) (fun z => by omega) (fun z => z)
  · refine CLr.cA (A := A) ?_ rfl rfl (fun _ => rfl) rfl
    exact hr.ex hx (fun _ _ => rfl) (fun f y a z => by omega) (fun _ _ _ z => z) (fun y hy z => hy.elim (tgne3 hi4 (htg y z)).2.1 (tgne3 hi4 (htg y z)).2.2)
theorem frC_bkU {n : Nat} {f1 f2 f3 g : Nat → Int32} (h : CLb G S tg W A) (hi : i < aNb A) : FrC tg S (bkU S (wBk W i) (wBp W i) (wBe W i) (wBc W i) (wBr W i) f1 f2 f3 n g) tg := by
  obtain ⟨bb, t1, t2, t3, t4, t5, -⟩ := h.2.2.2 i hi
  refine FrC.of bkU_ex (fun _ _ => rfl) (fun f y z => by omega) (fun _ _ z => z.elim) (fun y z => ?_)
  rcases z with rfl | rfl | rfl | rfl <;> omega
theorem VF.bk {n : Nat} {f1 f2 f3 : Nat → Int32} (h : VF A) : ∀ o, o < aNo (bkA A i f1 f2 f3 n) → aOb (bkA A i f1 f2 f3 n) o ≠ i → ∀ c f, f < 43 → aHl (bkA A i f1 f2 f3 n) o c f = 1 → aBd (bkA A i f1 f2 f3 n) o c = 0 → f < aLen (bkA A i f1 f2 f3 n) (aOb (bkA A i f1 f2 f3 n) o) := by
  intro o ho hob c f hf h1 h2
  unfold aLen
  rw [bkA_rowo hob]
  exact h o ho c f hf h1 h2
end BooksA
def oDraw (A : AS) (b a p m c : Int32) : OP :=
  if ixb b (aNb A) = true then (if rgb a 0 (aSz A (ii b)) = true then (if rgb p 0 999 = true ∧ rgb m 0 5 = true ∧ rgb c 0 3 = true then (if aSz A (ii b) = 8 then (3, 0, A) else
    flow (bkA A (ii b) (insF (aPs A (ii b)) (aSz A (ii b)) (ii a) p) (insF (aBt A (ii b)) (aSz A (ii b)) (ii a) m) (insF (aCv A (ii b)) (aSz A (ii b)) (ii a) c) (aSz A (ii b) + 1)) (ii b)) else (2, 0, A)) else (1, 0, A)) else (1, 0, A)
def oErase (A : AS) (b a : Int32) : OP :=
  if ixb b (aNb A) = true then (if ixb a (aSz A (ii b)) = true then
    flow (bkA A (ii b) (shD (aPs A (ii b)) (ii a) (aSz A (ii b))) (shD (aBt A (ii b)) (ii a) (aSz A (ii b))) (shD (aCv A (ii b)) (ii a) (aSz A (ii b))) (aSz A (ii b) - 1)) (ii b) else (1, 0, A)) else (1, 0, A)
def oMove (A : AS) (b a p : Int32) : OP :=
  if ixb b (aNb A) = true then (if ixb a (aSz A (ii b)) = true then (if rgb p 0 999 = true then
    flow (bkA A (ii b) (upd (aPs A (ii b)) (ii a) p) (aBt A (ii b)) (aCv A (ii b)) (aSz A (ii b))) (ii b) else (2, 0, A)) else (1, 0, A)) else (1, 0, A)
def oFrames (A : AS) (b : Int32) : OP := if ixb b (aNb A) = true then (0, nI (aLen A (ii b)), A) else (1, 0, A)
def oFrameAt (A : AS) (b f : Int32) : OP := if ixb b (aNb A) = true then (if ixb f (aLen A (ii b)) = true then (0, posA A (ii b) (ii f), A) else (1, 0, A)) else (1, 0, A)
section BooksB
variable {l : Launch} {G : GG} {S : PS} {tg : TG} {W : WT} {A : AS} {t : Nat}
set_option maxRecDepth 100000 in
theorem c_frames (hl : l.stackTraces = false) (h : CL G S tg W A t) (b : Int32) :
    MT l G S yX7_frames cX7_frames 2 (some .int) (rmT 2 1 6) [va_rf (some t), .int b] (EN G S tg t (oFrames A b)) (XO A (oFrames A b) [eIO]) := by
  obtain ⟨⟨hv, hb, ho, hs, hr⟩, hF⟩ := id h
  have h4 := hv.1
  refine MT_of (by decide +kernel) hl rfl (Nat.le_of_ble_eq_true rfl) (fun Z hC hzl hnm hT hQ => ?_)
  change J G Z S 0 0 0 [some (va_rf (some t)), some (.int b)] []
  have hzs : (zl Z).stackTraces = false := by rw [hzl]; exact hl
  refine r_aload_n hC dX7_frames_0 rfl rfl ?_
  refine r_iload_n hC dX7_frames_1 rfl rfl ?_
  refine r_cV (as := [.int b]) hC (c_bookNumbered hzs hr.1 hr.2.1 hb.1 h4 b) cs_X7_bookNumbered q_408 q_410 q_5 (hr.1) (by decide) rfl dX7_frames_2 rfl rfl ⟨Nat.le_of_ble_eq_true rfl, Nat.le_of_ble_eq_true rfl⟩ (Nat.le_of_ble_eq_true rfl) ⟨Nat.le_of_ble_eq_true rfl, Nat.le_of_ble_eq_true rfl⟩ (fun v2 S2 p2 => ?_) (fun E2 x2 => ?_)
  · obtain ⟨j, hj, rfl, rfl, e2⟩ := p2
    rw [e2]
    have hk := hb.2.2.2 j hj
    refine r_getI hC fl_X7_106 rfl dX7_frames_5 (hk.1.1) (hk.2.2.2.2.2.2.2.1) ?_
    refine r_iret hC hQ rfl dX7_frames_8 (Nat.le_of_ble_eq_true rfl) (Nat.le_of_ble_eq_true rfl) ?_
    have e : oFrames A (nI j) = (0, nI (aLen A j), A) := by unfold oFrames; rw [if_pos (ixb_t hj (by omega)), ii_n (by omega)]
    rw [e]
    exact ⟨rfl, rfl, tg, W, h, FrC.rf⟩
  · refine r_out hC hQ hT (Nat.le_of_ble_eq_true rfl) (Nat.le_of_ble_eq_true rfl) ⟨0, ?_, by rw [x2.1]; rfl⟩
    unfold oFrames
    rw [if_neg (by rw [ixb_f x2.2]; decide)]
set_option maxRecDepth 100000 in
theorem c_frameAt (hl : l.stackTraces = false) (h : CL G S tg W A t) (b f : Int32) :
    MT l G S yX7_frameAt cX7_frameAt 4 (some .int) (rmT 2 2 12) [va_rf (some t), .int b, .int f] (EN G S tg t (oFrameAt A b f)) (XO A (oFrameAt A b f) [eIO]) := by
  obtain ⟨⟨hv, hb, ho, hs, hr⟩, hF⟩ := id h
  have h4 := hv.1
  refine MT_of (by decide +kernel) hl rfl (Nat.le_of_ble_eq_true rfl) (fun Z hC hzl hnm hT hQ => ?_)
  change J G Z S 0 0 0 [some (va_rf (some t)), some (.int b), some (.int f), none] []
  have hzs : (zl Z).stackTraces = false := by rw [hzl]; exact hl
  refine r_aload_n hC dX7_frameAt_0 rfl rfl ?_
  refine r_iload_n hC dX7_frameAt_1 rfl rfl ?_
  refine r_cV (as := [.int b]) hC (c_bookNumbered hzs hr.1 hr.2.1 hb.1 h4 b) cs_X7_bookNumbered q_408 q_410 q_5 (hr.1) (by decide) rfl dX7_frameAt_2 rfl rfl ⟨Nat.le_of_ble_eq_true rfl, Nat.le_of_ble_eq_true rfl⟩ (Nat.le_of_ble_eq_true rfl) ⟨Nat.le_of_ble_eq_true rfl, Nat.le_of_ble_eq_true rfl⟩ (fun v2 S2 p2 => ?_) (fun E2 x2 => ?_)
  · obtain ⟨j, hj, rfl, rfl, e2⟩ := p2
    rw [e2]
    have hk := hb.2.2.2 j hj
    have h43 := hv.len hj
    refine r_astore_n hC dX7_frameAt_5 rfl (by decide) ?_
    refine r_iload_n hC dX7_frameAt_6 rfl rfl ?_
    refine r_aload_n hC dX7_frameAt_7 rfl rfl ?_
    refine r_getI hC fl_X7_106 rfl dX7_frameAt_8 (hk.1.1) (hk.2.2.2.2.2.2.2.1) ?_
    refine r_cS (as := [.int f, .int (nI (aLen A j))]) hC (c_checkIndex hzs f (m := aLen A j) (by omega)) cs_X7_checkIndex q_412 q_413 dX7_frameAt_11 rfl rfl ⟨Nat.le_of_ble_eq_true rfl, Nat.le_of_ble_eq_true rfl⟩ (Nat.le_of_ble_eq_true rfl) ⟨Nat.le_of_ble_eq_true rfl, Nat.le_of_ble_eq_true rfl⟩ (fun v11 S11 p11 => ?_) (fun E11 x11 => ?_)
    · obtain ⟨rfl, e11, k, hk2, rfl⟩ := p11
      rw [e11]
      refine r_aload_n hC dX7_frameAt_14 rfl rfl ?_
      refine r_iload_n hC dX7_frameAt_15 rfl rfl ?_
      refine r_cVN (as := [.int (nI k)]) hC (c_posN hzs hk.1 hk.2.2.2.2.2.2.2.1 h43 (f := k) (by omega)) cs_X0_positionOf q_537 q_495 q_14 (hk.1.1) (by decide) rfl dX7_frameAt_16 rfl rfl ⟨Nat.le_of_ble_eq_true rfl, Nat.le_of_ble_eq_true rfl⟩ (Nat.le_of_ble_eq_true rfl) ⟨Nat.le_of_ble_eq_true rfl, Nat.le_of_ble_eq_true rfl⟩ (fun v16 S16 p16 => ?_) (fun _ x => x.elim)
      obtain ⟨rfl, e16⟩ := p16
      rw [e16]
      refine r_iret hC hQ rfl dX7_frameAt_19 (Nat.le_of_ble_eq_true rfl) (Nat.le_of_ble_eq_true rfl) ?_
      have e : oFrameAt A (nI j) (nI k) = (0, posA A j k, A) := by unfold oFrameAt; rw [if_pos (ixb_t hj (by omega)), ii_n (by omega), if_pos (ixb_t hk2 (by omega)), ii_n (by omega)]
      rw [e, posF_A hk.2.2.2.2.2.2.2.2.2.2.2]
      exact ⟨rfl, rfl, tg, W, h, FrC.rf⟩
    · refine r_out hC hQ hT (Nat.le_of_ble_eq_true rfl) (Nat.le_of_ble_eq_true rfl) ⟨0, ?_, by rw [x11.1]; rfl⟩
      unfold oFrameAt
      rw [if_pos (ixb_t hj (by omega)), ii_n (by omega), if_neg (by rw [ixb_f x11.2]; decide)]
  · refine r_out hC hQ hT (Nat.le_of_ble_eq_true rfl) (Nat.le_of_ble_eq_true rfl) ⟨0, ?_, by rw [x2.1]; rfl⟩
    unfold oFrameAt
    rw [if_neg (by rw [ixb_f x2.2]; decide)]
set_option maxRecDepth 100000 in
set_option maxHeartbeats 1000000 in
theorem c_move (hl : l.stackTraces = false) (h : CL G S tg W A t) (b a p : Int32) :
    MT l G S yX7_move cX7_move 5 (some .int) (rmT 3 3 18) [va_rf (some t), .int b, .int a, .int p] (EN G S tg t (oMove A b a p)) (XO A (oMove A b a p) [eIO, eIA]) := by
  obtain ⟨⟨hv, hb, ho, hs, hr⟩, hF⟩ := id h
  have h4 := hv.1
  refine MT_of (by decide +kernel) hl rfl (Nat.le_of_ble_eq_true rfl) (fun Z hC hzl hnm hT hQ => ?_)
  change J G Z S 0 0 0 [some (va_rf (some t)), some (.int b), some (.int a), some (.int p), none] []
  have hzs : (zl Z).stackTraces = false := by rw [hzl]; exact hl
  refine r_hge hC (fun hg => ?_)
  refine r_aload_n hC dX7_move_0 rfl rfl ?_
  refine r_iload_n hC dX7_move_1 rfl rfl ?_
  refine r_cV (as := [.int b]) hC (c_bookNumbered hzs hr.1 hr.2.1 hb.1 h4 b) cs_X7_bookNumbered q_408 q_410 q_5 (hr.1) (by decide) rfl dX7_move_2 rfl rfl ⟨Nat.le_of_ble_eq_true rfl, Nat.le_of_ble_eq_true rfl⟩ (Nat.le_of_ble_eq_true rfl) ⟨Nat.le_of_ble_eq_true rfl, Nat.le_of_ble_eq_true rfl⟩ (fun v2 S2 p2 => ?_) (fun E2 x2 => ?_)
  · obtain ⟨j, hj, rfl, rfl, e2⟩ := p2
    rw [e2]
    obtain ⟨bb, b1, b2, b3, b4, b5, b6, b7, b8, b9, b10, b11⟩ := hb.2.2.2 j hj
    obtain ⟨h8, hV⟩ := hv.2.2.2.2.1 j hj
    have q1 : ixb (nI j) (aNb A) = true := ixb_t hj (by omega)
    have q2 : ii (nI j) = j := ii_n (by omega)
    refine r_astore hC dX7_move_5 (by decide) ?_
    refine r_iload_n hC dX7_move_7 rfl rfl ?_
    refine r_aload hC dX7_move_8 rfl ?_
    refine r_getI hC fl_X7_74 rfl dX7_move_10 (bb.1) (b6) ?_
    refine r_cS (as := [.int a, .int (nI (aSz A j))]) hC (c_checkIndex hzs a (m := aSz A j) (by omega)) cs_X7_checkIndex q_412 q_413 dX7_move_13 rfl rfl ⟨Nat.le_of_ble_eq_true rfl, Nat.le_of_ble_eq_true rfl⟩ (Nat.le_of_ble_eq_true rfl) ⟨Nat.le_of_ble_eq_true rfl, Nat.le_of_ble_eq_true rfl⟩ (fun v13 S13 p13 => ?_) (fun E13 x13 => ?_)
    · obtain ⟨rfl, e13, k, hk, rfl⟩ := p13
      rw [e13]
      have q3 : ixb (nI k) (aSz A j) = true := ixb_t hk (by omega)
      have q4 : ii (nI k) = k := ii_n (by omega)
      refine r_iload_n hC dX7_move_16 rfl rfl ?_
      refine r_iconst (v := nI 0) hC dX7_move_17 (by decide) ?_
      refine r_sipush (v := nI 999) hC dX7_move_18 (by decide) ?_
      refine r_cS (as := [.int p, .int (nI 0), .int (nI 999)]) hC (c_checkRange hzs p (nI 0) (nI 999)) cs_X7_checkRange q_432 q_433 dX7_move_21 rfl rfl ⟨Nat.le_of_ble_eq_true rfl, Nat.le_of_ble_eq_true rfl⟩ (Nat.le_of_ble_eq_true rfl) ⟨Nat.le_of_ble_eq_true rfl, Nat.le_of_ble_eq_true rfl⟩ (fun v21 S21 p21 => ?_) (fun E21 x21 => ?_)
      · obtain ⟨rfl, e21, r1, r2⟩ := p21
        rw [e21]
        obtain ⟨x, hx, rfl⟩ := rgb_n (by decide) r1 r2
        have hVA : VB (pA S (wBp W j)) (pA S (wBe W j)) (pA S (wBc W j)) (aSz A j) := by rw [b8, b9, b10]; exact hV
        refine r_aload hC dX7_move_24 rfl ?_
        refine r_iload_n hC dX7_move_26 rfl rfl ?_
        refine r_iload_n hC dX7_move_27 rfl rfl ?_
        refine r_cVN (as := [.int (nI k), .int (nI x)]) hC (c_putAt hzs bb b6 h8 hVA hk hx) cs_X0_putAt q_519 q_521 q_17 (bb.1) (by decide) rfl dX7_move_28 rfl rfl ⟨Nat.le_of_ble_eq_true rfl, Nat.le_of_ble_eq_true rfl⟩ (Nat.le_of_ble_eq_true rfl) ⟨Nat.le_of_ble_eq_true rfl, Nat.le_of_ble_eq_true rfl⟩ (fun v28 S28 p28 => ?_) (fun _ x => x.elim)
        obtain ⟨rfl, g, e28, hh⟩ := p28
        rw [b8, b9, b10] at e28 hh
        have hn := CLn.bkP ⟨hv, hb, ho, hs, hr⟩ hg hj h8 (VB_put hV hx) hh (t := t) (nl := aNs A) (i := j)
        have hfr := frC_bkU (f1 := upd (aPs A j) k (nI x)) (f2 := aBt A j) (f3 := aCv A j) (n := aSz A j) (g := g) hb hj
        rw [← e28] at hn hfr
        refine r_aload_n hC dX7_move_31 rfl rfl ?_
        refine r_aload hC dX7_move_32 rfl ?_
        refine r_cV (as := [va_rf (some (wBk W j))]) hC (c_spoilChangedT hzs hn hj hF.bk) cs_X7_spoilChanged q_475 q_477 q_11 (hn.2.2.2.2.1) (by decide) rfl dX7_move_34 rfl rfl ⟨Nat.le_of_ble_eq_true rfl, Nat.le_of_ble_eq_true rfl⟩ (Nat.le_of_ble_eq_true rfl) ⟨Nat.le_of_ble_eq_true rfl, Nat.le_of_ble_eq_true rfl⟩ (fun v34 S34 p34 => ?_) (fun _ x => x.elim)
        obtain ⟨rfl, hcl, hfr2⟩ := p34
        refine r_iret hC hQ rfl dX7_move_37 (Nat.le_of_ble_eq_true rfl) (Nat.le_of_ble_eq_true rfl) ?_
        have e : oMove A (nI j) (nI k) (nI x) = flow (bkA A j (upd (aPs A j) k (nI x)) (aBt A j) (aCv A j) (aSz A j)) j := by
          unfold oMove
          rw [if_pos q1, q2, if_pos q3, q4, if_pos (rgb_t r1 r2)]
        rw [e]
        exact ⟨rfl, rfl, tg, W, hcl, hfr.tr hfr2⟩
      · refine r_out hC hQ hT (Nat.le_of_ble_eq_true rfl) (Nat.le_of_ble_eq_true rfl) ⟨1, ?_, by rw [x21.1]; rfl⟩
        unfold oMove
        rw [if_pos q1, q2, if_pos q3, if_neg (by rw [rgb_f x21.2]; decide)]
    · refine r_out hC hQ hT (Nat.le_of_ble_eq_true rfl) (Nat.le_of_ble_eq_true rfl) ⟨0, ?_, by rw [x13.1]; rfl⟩
      unfold oMove
      rw [if_pos q1, q2, if_neg (by rw [ixb_f x13.2]; decide)]
  · refine r_out hC hQ hT (Nat.le_of_ble_eq_true rfl) (Nat.le_of_ble_eq_true rfl) ⟨0, ?_, by rw [x2.1]; rfl⟩
    unfold oMove
    rw [if_neg (by rw [ixb_f x2.2]; decide)]
end BooksB

