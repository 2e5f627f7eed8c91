/-! ===== leaves spoiled, told by orders, copies and frames ===== -/
theorem SPR.cong2 {S S' : PS} {P Q : Nat → Nat → Nat → Prop} (h : SPR S S' P) (e : ∀ x g y, pB S x g = some y → (P x g y ↔ Q x g y)) : SPR S S' Q := by
  obtain ⟨h1, h2, h3, h4, h5⟩ := h
  exact ⟨fun x g y a b => h1 x g y a ((e x g y a).mpr b), fun x g a => h2 x g (fun y b c => a y b ((e x g y b).mp c)), fun x g y a b => h3 x g y a ((e x g y a).mpr b), fun k y a => h4 k y (fun b x g c d => a b x g c ((e x g y c).mp d)), h5⟩
def spoA (A : AS) (Q : Nat → Nat → Nat → Bool) : AS := (fun r i j k => if r = 5 then (if Q i j k = true then 0 else A.1 5 i j k) else A.1 r i j k, A.2)
section SpoilA
variable {G : GG} {S S' : PS} {tg : TG} {W : WT} {A : AS} {t nl : Nat}
theorem BK1.spr {P : Nat → Nat → Nat → Prop} (hs : SPR S S' P) {i b p e c r : Nat} (h : BK1 S tg A i b p e c r) : BK1 S' tg A i b p e c r := by
  obtain ⟨hb, t1, t2, t3, t4, t5, i4, i5, ap, ae, ac, hr⟩ := h
  exact ⟨hs.bk hb, t1, t2, t3, t4, t5, (hs.I (by decide) _).trans i4, (hs.I (by decide) _).trans i5, by rw [hs.A]; exact ap, by rw [hs.A]; exact ae, by rw [hs.A]; exact ac, by rw [hs.A]; exact hr⟩
theorem LA.spr {P : Nat → Nat → Nat → Prop} (hs : SPR S S' P) {a k : Nat} (h : LA S tg a k) : LA S' tg a k := by
  intro arr ra hin
  rw [hs.R] at ra
  rw [hs.2.2.2.2.1] at hin
  exact h arr ra hin
theorem isFd.spr {P : Nat → Nat → Nat → Prop} (hs : SPR S S' P) {d a : Nat} {f : Nat → Nat} (h : isFd S d a f) : isFd S' d a f := by
  unfold isFd KD
  rw [hs.2.2.2.2.1, hs.2.2.2.2.2.1, hs.R, hs.N, hs.A]
  exact h
set_option maxHeartbeats 1000000 in
theorem CLn.spr {P : Nat → Nat → Nat → Prop} {Q : Nat → Nat → Nat → Bool} (h : CLn G S tg W A t nl) (hs : SPR S S' P) (h1 : ∀ x g y, P x g y → ∃ o c, o < aNo A ∧ c < aNc A o ∧ x = wLv W o c ∧ g < 43 ∧ Q o c g = true) (h2 : ∀ o c g y, o < aNo A → c < aNc A o → g < 43 → Q o c g = true → P (wLv W o c) g y) :
    CLn G S' tg W (spoA A Q) t nl := by
  obtain ⟨hv, hb, ho, hsh, hr⟩ := h
  have h13 : ∀ x, KD S x 13 → ∀ g y, ¬ P x g y := by
    intro x kx g y hp
    obtain ⟨o, c, q1, q2, q3, -⟩ := h1 x g y hp
    have := ((ho.2.2.2 o q1).1.2.2.2.2.2.2.1 c q2).2.2.1
    rw [← q3] at this
    exact absurd (this.2.symm.trans kx.2) (by decide)
  have hinj : ∀ o c o' c', o < aNo A → c < aNc A o → o' < aNo A → c' < aNc A o' → wLv W o c = wLv W o' c' → o = o' ∧ c = c' := by
    intro o c o' c' a1 a2 a3 a4 e
    have e1 := (ho.lv o c a1 a2).2
    have e2 := (ho.lv o' c' a3 a4).2
    rw [e] at e1
    have := (hv.2.2.2.2.2.1 o a1).2.2
    have := (hv.2.2.2.2.2.1 o' a3).2.2
    omega
  -- where a leaf of use stands
  have own : ∀ o c f y, o < aNo A → c < aNc A o → f < 43 → pB S (wLv W o c) f = some y → pI S 96 y = nI o ∧ pI S 97 y = nI c ∧ pI S 98 y = nI f ∧ KD S y 3 := by
    intro o c f y a1 a2 a3 hy
    have hcp := ((ho.2.2.2 o a1).1.2.2.2.2.2.2.1 c a2).2.2.2.2.1 f a3 y hy
    rcases ((ho.2.2.2 o a1).2.2.2.2 c a2).2.2.2 f a3 with ⟨-, hn⟩ | ⟨-, y', hy', -, -, -, q4, q5, -⟩
    · rw [hn] at hy; cases hy
    · rw [hy'] at hy
      cases hy
      exact ⟨q4, q5, hcp.2, hcp.1.1⟩
  have uniq : ∀ o c f o' c' f' y, o < aNo A → c < aNc A o → f < 43 → o' < aNo A → c' < aNc A o' → f' < 43 → pI S 96 y = nI o → pI S 97 y = nI c → pI S 98 y = nI f → pB S (wLv W o' c') f' = some y → o = o' ∧ c = c' ∧ f = f' := by
    intro o c f o' c' f' y a1 a2 a3 b1 b2 b3 e1 e2 e3 hy
    obtain ⟨g1, g2, g3, -⟩ := own o' c' f' y b1 b2 b3 hy
    have := (hv.2.2.2.2.2.1 o a1).2.2
    have := (hv.2.2.2.2.2.1 o' b1).2.2
    have := hv.2.1
    exact ⟨(nI_eq (by omega) (by omega)).mp (e1.symm.trans g1), (nI_eq (by omega) (by omega)).mp (e2.symm.trans g2), (nI_eq (by omega) (by omega)).mp (e3.symm.trans g3)⟩
  have keep101 : ∀ o c f y, o < aNo A → c < aNc A o → f < 43 → Q o c f = false → pI S 96 y = nI o → pI S 97 y = nI c → pI S 98 y = nI f → pI S' 101 y = pI S 101 y := by
    intro o c f y a1 a2 a3 hq e1 e2 e3
    refine hs.2.2.2.1 101 y (fun _ x g hy hp => ?_)
    obtain ⟨o', c', b1, b2, rfl, b4, b5⟩ := h1 x g y hp
    obtain ⟨rfl, rfl, rfl⟩ := uniq o c f o' c' g y a1 a2 a3 b1 b2 b4 e1 e2 e3 hy
    rw [hq] at b5
    cases b5
  have keepB : ∀ o c f, o < aNo A → c < aNc A o → f < 43 → Q o c f = false → pB S' (wLv W o c) f = pB S (wLv W o c) f := by
    intro o c f a1 a2 a3 hq
    refine hs.2.1 _ _ (fun y hy hp => ?_)
    obtain ⟨o', c', b1, b2, b3, b4, b5⟩ := h1 _ f y hp
    obtain ⟨rfl, rfl⟩ := hinj o c o' c' a1 a2 b1 b2 b3
    rw [hq] at b5
    cases b5
  have keepC : ∀ j, j < aNs A → ∀ x, pB S' (wSc W j) x = pB S (wSc W j) x := by
    intro j hj x
    refine hs.2.1 _ _ (fun y hy hp => ?_)
    obtain ⟨o', c', b1, b2, b3, b4, b5⟩ := h1 _ x y hp
    have e1 := (ho.lv o' c' b1 b2).2
    have e2 := (hsh.sc j hj).2
    rw [b3] at e2
    have := (hv.2.2.2.2.2.1 o' b1).2.2
    have := hv.2.1
    omega
  have hvu : VU (spoA A Q) := by
    obtain ⟨v1, v2, v3, v4, v5, v6, v7, v8, v9, v10, v11⟩ := hv
    refine ⟨v1, v2, v3, v4, v5, v6, v7, v8, v9, v10, fun o ho c f hf => ?_⟩
    have := v11 o ho c f hf
    show (if Q o c f = true then 0 else aHl A o c f) ≤ 1 ∧ ((if Q o c f = true then 0 else aHl A o c f) = 1 → _)
    by_cases hq : Q o c f = true
    · rw [if_pos hq]; exact ⟨by omega, fun z => absurd z (by decide)⟩
    · rw [if_neg hq]; exact this
  refine ⟨hvu, ⟨hs.list hb.1 (fun arr _ k => h13 arr k), hb.2.1, hb.2.2.1.spr hs, fun i hi => (hb.2.2.2 i hi).spr hs⟩, ⟨hs.list ho.1 (fun arr _ k => h13 arr k), ho.2.1, ho.2.2.1.spr hs, fun o hoo => ?_⟩, ⟨hs.list hsh.1 (fun arr _ k => h13 arr k), hsh.2.1, hsh.2.2.1.spr hs, fun j hj => ?_⟩, ?_⟩
  · obtain ⟨g1, g2, g3, g4, g5⟩ := ho.2.2.2 o hoo
    refine ⟨hs.or g1 h13, (hs.I (by decide) _).trans g2, g3, g4.spr hs, fun c hc => ?_⟩
    obtain ⟨c1, c2, c3, c4⟩ := g5 c hc
    refine ⟨c1, c2, ?_, fun f hf => ?_⟩
    · rw [hs.I (show (33 : Nat) ≠ 101 by decide), hs.I (show (34 : Nat) ≠ 101 by decide)]
      exact c3
    · show ((if Q o c f = true then 0 else aHl A o c f) = 0 ∧ _) ∨ ((if Q o c f = true then 0 else aHl A o c f) = 1 ∧ _)
      by_cases hq : Q o c f = true
      · rw [if_pos hq]
        refine Or.inl ⟨rfl, ?_⟩
        cases hy : pB S (wLv W o c) f with
        | none =>
          rw [hs.2.1 _ _ (fun y e => by rw [hy] at e; cases e)]
          exact hy
        | some y => exact hs.1 _ _ y hy (h2 o c f y hoo hc hf hq)
      · have hq' : Q o c f = false := (Bool.not_eq_true _).mp hq
        rw [if_neg hq, keepB o c f hoo hc hf hq']
        rcases c4 f hf with h | ⟨d0, y, hy, d1, d2, d3, d4, d5, d6, x, hx, d7⟩
        · exact Or.inl h
        · have hw := own o c f y hoo hc hf hy
          refine Or.inr ⟨d0, y, hy, d1.trans (hs.I (by decide) _).symm, d2, by rw [hs.R]; exact d3, (hs.I (by decide) _).trans d4, (hs.I (by decide) _).trans d5, (keep101 o c f y hoo hc hf hq' hw.1 hw.2.1 hw.2.2.1).trans d6, x, hx, ?_⟩
          show pB S' (wSc W (aLs A o c f)) x = _
          rw [keepC _ d2]
          exact d7
  · obtain ⟨g1, g2, g3, g4, g5, g6, g7, g8, g9⟩ := hsh.2.2.2 j hj
    refine ⟨⟨hs.kd.mpr g1.1, by rw [hs.R]; exact g1.2.1, hs.kd.mpr g1.2.2.1, by rw [hs.N]; exact g1.2.2.2⟩, g2, g3, by rw [hs.R]; exact g4, g5.spr hs, g6, (hs.I (by decide) _).trans g7, (hs.I (by decide) _).trans g8, fun x hx => ?_⟩
    unfold CE1
    rw [keepC j hj]
    rcases g9 x hx with h | ⟨y, o, c, f, hy, ky, ry, h101, hoo, hc, hf, q1, q2, q3, q4, q5⟩
    · exact Or.inl h
    · refine Or.inr ⟨y, o, c, f, hy, hs.kd.mpr ky, by rw [hs.R]; exact ry, ?_, hoo, hc, hf, (hs.I (by decide) _).trans q1, (hs.I (by decide) _).trans q2, (hs.I (by decide) _).trans q3, q4, fun h0 => ?_⟩
      · by_cases hp : ∃ x g, pB S x g = some y ∧ P x g y
        · obtain ⟨x, g, hp1, hp2⟩ := hp
          exact Or.inr (hs.2.2.1 x g y hp1 hp2)
        · rw [hs.2.2.2.1 101 y (fun _ x g a b => hp ⟨x, g, a, b⟩)]
          exact h101
      · have hnp : ∀ x g, pB S x g = some y → ¬ P x g y := by
          intro x g hp1 hp2
          rw [hs.2.2.1 x g y hp1 hp2] at h0
          exact absurd h0 (by decide)
        have e := hs.2.2.2.1 101 y (fun _ x g a b => hnp x g a b)
        rw [e] at h0
        have hy2 := q5 h0
        rw [hs.2.1 _ _ (fun y' hy' => by rw [hy2] at hy'; cases hy'; exact hnp _ _ hy2)]
        exact hy2
  · obtain ⟨kt, r0, r1, r2, r3, r4, r5, r6, i1, i2, ku, nu, tu, kd, nd, td, hd, hp, tc, th, hf, tf⟩ := hr
    refine ⟨hs.kd.mpr kt, by rw [hs.R]; exact r0, by rw [hs.R]; exact r1, by rw [hs.R]; exact r2, by rw [hs.R]; exact r3, by rw [hs.R]; exact r4, by rw [hs.R]; exact r5, by rw [hs.R]; exact r6, (hs.I (by decide) _).trans i1, (hs.I (by decide) _).trans i2, hs.kd.mpr ku, by rw [hs.N]; exact nu, tu, hs.kd.mpr kd, by rw [hs.N]; exact nd, td, fun k hk => by rw [hs.A]; exact hd k hk, ?_, tc, th, hf.spr hs, tf⟩
    obtain ⟨p1, p2, p3, p4, p5, p6, p7, p8⟩ := hp
    exact ⟨hs.kd.mpr p1, by rw [hs.R]; exact p2, by rw [hs.R]; exact p3, hs.kd.mpr p4, by rw [hs.N]; exact p5, hs.kd.mpr p6, by rw [hs.N]; exact p7, p8⟩
end SpoilA

