/-! ===== a leaf is printed ===== -/
def lay1 (A : AS) (j o c f p : Nat) : AS :=
  (fun r i k m => if r = 5 then (if i = o ∧ k = c ∧ m = f then 1 else A.1 5 i k m) else if r = 6 then (if i = o ∧ k = c ∧ m = f then j else A.1 6 i k m) else if r = 11 then (if i = j ∧ k = unf (aFd A) p ∧ m = 0 then 10000 * o + 1000 * c + f + 1 else A.1 11 i k m) else A.1 r i k m,
   fun r i k => if r = 3 then (if i = o ∧ k = c then (fun m => if m = f then posA A (aOb A o) f else A.2 3 i k m) else A.2 3 i k) else A.2 r i k)
section LayA
variable {G : GG} {S S2 : PS} {tg : TG} {W : WT} {A : AS} {t nl j o c f p y : Nat}
theorem lay_h {o' c' f' : Nat} : aHl (lay1 A j o c f p) o' c' f' = if o' = o ∧ c' = c ∧ f' = f then 1 else aHl A o' c' f' := rfl
theorem lay_s {o' c' f' : Nat} : aLs (lay1 A j o c f p) o' c' f' = if o' = o ∧ c' = c ∧ f' = f then j else aLs A o' c' f' := rfl
theorem lay_i {i x : Nat} : aLi (lay1 A j o c f p) i x = if i = j ∧ x = unf (aFd A) p ∧ 0 = 0 then 10000 * o + 1000 * c + f + 1 else aLi A i x := rfl
theorem lay_p {o' c' f' : Nat} : aPos (lay1 A j o c f p) o' c' f' = if o' = o ∧ c' = c ∧ f' = f then posA A (aOb A o) f else aPos A o' c' f' := by
  show (if o' = o ∧ c' = c then (fun m => if m = f then posA A (aOb A o) f else A.2 3 o' c' m) else A.2 3 o' c') f' = _
  by_cases h : o' = o ∧ c' = c
  · rw [if_pos h]
    by_cases hf : f' = f
    · rw [if_pos hf, if_pos ⟨h.1, h.2, hf⟩]
    · rw [if_neg hf, if_neg (fun z => hf z.2.2)]
  · rw [if_neg h, if_neg (fun z => h ⟨z.1, z.2.1⟩)]
theorem VU.lay (hv : VU A) (hoo : o < aNo A) (hcc : c < aNc A o) (hf : f < aLen A (aOb A o)) (hj : j < aNs A) : VU (lay1 A j o c f p) := by
  obtain ⟨v1, v2, v3, v4, v5, v6, v7, v8, v9, v10, v11⟩ := id hv
  refine ⟨v1, v2, v3, v4, v5, v6, v7, v8, v9, v10, fun o' ho' c' f' hf' => ?_⟩
  rw [lay_h, lay_s, lay_p]
  by_cases h : o' = o ∧ c' = c ∧ f' = f
  · rw [if_pos h, if_pos h, if_pos h, h.1, h.2.1]
    exact ⟨Nat.le_refl _, fun _ => ⟨hcc, hj, posA_ne hv (v6 o hoo).1 hf⟩⟩
  · rw [if_neg h, if_neg h, if_neg h]
    exact v11 o' ho' c' f' hf'
set_option maxHeartbeats 4000000 in
theorem CLn.lay (h : CLn G S tg W A t nl) (hg : gE G ∉ pL S2) (hoo : o < aNo A) (hcc : c < aNc A o) (hf : f < aLen A (aOb A o)) (hhl : aHl A o c f = 0) (hj : j < aNs A) (hp : p < 8) (hfd : wSf W j = aFd A) (he : aLi A j (unf (aFd A) p) = 0)
    (hx : Ex S S2 x2 x2 x0 x0) (ky : KD S2 y 3) (i96 : pI S2 96 y = nI o) (i97 : pI S2 97 y = nI c) (i98 : pI S2 98 y = nI f) (i99 : pI S2 99 y = posA A (aOb A o) f) (i101 : pI S2 101 y = 0) (r100 : pR S2 100 y = some (wSh W j)) :
    CLn G (sB (sB S2 (wLv W o c) (va_up (pB S2 (wLv W o c)) f (some y))) (wSc W j) (va_up (pB (sB S2 (wLv W o c) (va_up (pB S2 (wLv W o c)) f (some y))) (wSc W j)) (unf (wSf W j) p) (some y))) tg W (lay1 A j o c f p) t nl := by
  obtain ⟨hv, hb, ho, hs, hr⟩ := id h
  have hob := (hv.2.2.2.2.2.1 o hoo).1
  have h43 : f < 43 := Nat.lt_of_lt_of_le hf (hv.len hob)
  have h5 := hv.2.1
  have h3 := (hv.2.2.2.2.2.1 o hoo).2.2
  have b2 := hb.ex hv hx (fun _ _ => rfl) hg (fun _ _ _ z => z) (fun _ _ _ z => z) (fun _ _ _ z => z) (fun z => z) (fun z => z) (fun _ _ _ z => z)
  have o2 := ho.ex hv hs.sc hx (fun _ _ => rfl) hg (fun _ _ _ _ z => z) (fun _ _ _ _ z => z) (fun _ _ _ z => z) (fun _ _ z => z) (fun _ _ z => z)
  have s2 := hs.ex hv ho.lv hx (fun _ _ => rfl) hg (fun _ _ _ _ z => z) (fun _ _ _ z => z) (fun _ _ z => z) (fun _ _ _ z => z) (fun z => z) (fun z => z)
  have r2 := hr.ex hx (fun _ _ => rfl) (fun _ _ _ z => z) (fun _ _ _ z => z) (fun _ _ z => z)
  have tl := (o2.lv o c hoo hcc).2
  have tc := (s2.sc j hj).2
  have hne : wLv W o c ≠ wSc W j := fun z => by rw [z] at tl; omega
  rw [hfd]
  obtain ⟨u, hu⟩ : ∃ u, u = unf (aFd A) p := ⟨_, rfl⟩
  have hu8 : u < 8 := by rw [hu]; exact (unf_ok hv.2.2.2.2.2.2.2.1).1 p hp
  rw [← hu] at he ⊢
  obtain ⟨S4, e4⟩ : ∃ z, z = sB (sB S2 (wLv W o c) (va_up (pB S2 (wLv W o c)) f (some y))) (wSc W j) (va_up (pB (sB S2 (wLv W o c) (va_up (pB S2 (wLv W o c)) f (some y))) (wSc W j)) u (some y)) := ⟨_, rfl⟩
  rw [← e4]
  have eI : pI S4 = pI S2 := by rw [e4]; rfl
  have eR : pR S4 = pR S2 := by rw [e4]; rfl
  have eK : ∀ a k, KD S4 a k ↔ KD S2 a k := fun a k => by rw [e4]; exact Iff.rfl
  have eB : ∀ x g, pB S4 x g = if x = wSc W j ∧ g = u then some y else if x = wLv W o c ∧ g = f then some y else pB S2 x g := by
    intro x g
    rw [e4]
    show va_up (va_up (pB S2) (wLv W o c) (va_up (pB S2 (wLv W o c)) f (some y))) (wSc W j) (va_up (va_up (pB S2) (wLv W o c) (va_up (pB S2 (wLv W o c)) f (some y)) (wSc W j)) u (some y)) x g = _
    by_cases h1 : x = wSc W j
    · rw [h1, va_up_self, va_up_ne _ _ (fun z => hne z.symm)]
      by_cases h2 : g = u
      · rw [h2, va_up_self, if_pos ⟨rfl, rfl⟩]
      · rw [va_up_ne _ _ h2, if_neg (fun z => h2 z.2), if_neg (fun z => hne z.1.symm)]
    · rw [va_up_ne _ _ h1, if_neg (fun z => h1 z.1)]
      by_cases h2 : x = wLv W o c
      · rw [h2, va_up_self]
        by_cases h3 : g = f
        · rw [h3, va_up_self, if_pos ⟨rfl, rfl⟩]
        · rw [va_up_ne _ _ h3, if_neg (fun z => h3 z.2)]
      · rw [va_up_ne _ _ h2, if_neg (fun z => h2 z.1)]
  have hx4 : Ex S2 S4 x2 x2 x0 (fun z => z = wLv W o c ∨ z = wSc W j) := by
    rw [e4]
    exact Ex.tB (Ex.putB (Or.inl (Or.inl rfl))) (Or.inl (Or.inr rfl))
  have hg4 : gE G ∉ pL S4 := by rw [e4]; exact hg
  have tXB : ∀ z, (z = wLv W o c ∨ z = wSc W j) → 900 ≤ tg z ∧ tg z < 1100 := fun z hz => by
    have := hv.2.2.1
    rcases hz with rfl | rfl
    · omega
    · omega
  have hvn := hv.lay (p := p) hoo hcc hf hj
  -- rows of copies, told apart
  have lvinj : ∀ o' c', o' < aNo A → c' < aNc A o' → wLv W o' c' = wLv W o c → o' = o ∧ c' = c := by
    intro o' c' a1 a2 e
    have e1 := (o2.lv o' c' a1 a2).2
    rw [e] at e1
    have := (hv.2.2.2.2.2.1 o' a1).2.2
    omega
  have lvsc : ∀ o' c', o' < aNo A → c' < aNc A o' → ∀ i, i < aNs A → wLv W o' c' ≠ wSc W i := by
    intro o' c' a1 a2 i hi e
    have e1 := (o2.lv o' c' a1 a2).2
    have e2 := (s2.sc i hi).2
    rw [e] at e1
    have := (hv.2.2.2.2.2.1 o' a1).2.2
    omega
  have scinj : ∀ i, i < aNs A → wSc W i = wSc W j → i = j := by
    intro i hi e
    have e1 := (s2.sc i hi).2
    rw [e] at e1
    omega
  have eBl : ∀ o' c', o' < aNo A → c' < aNc A o' → ∀ g, pB S4 (wLv W o' c') g = if o' = o ∧ c' = c ∧ g = f then some y else pB S2 (wLv W o' c') g := by
    intro o' c' a1 a2 g
    rw [eB, if_neg (fun z => lvsc o' c' a1 a2 j hj z.1)]
    by_cases hz : o' = o ∧ c' = c ∧ g = f
    · rw [if_pos hz, if_pos ⟨by rw [hz.1, hz.2.1], hz.2.2⟩]
    · rw [if_neg hz, if_neg (fun w => hz ⟨(lvinj o' c' a1 a2 w.1).1, (lvinj o' c' a1 a2 w.1).2, w.2⟩)]
  have eBc : ∀ i, i < aNs A → ∀ x, pB S4 (wSc W i) x = if i = j ∧ x = u then some y else pB S2 (wSc W i) x := by
    intro i hi x
    rw [eB]
    by_cases hz : i = j ∧ x = u
    · rw [if_pos hz, if_pos ⟨by rw [hz.1], hz.2⟩]
    · rw [if_neg hz, if_neg (fun w => hz ⟨scinj i hi w.1, w.2⟩), if_neg (fun w => lvsc o c hoo hcc i hi w.1.symm)]
  have row0 : pB S2 (wLv W o c) f = none := by
    rcases ((o2.2.2.2 o hoo).2.2.2.2 c hcc).2.2.2 f h43 with ⟨-, z⟩ | ⟨z, -⟩
    · exact z
    · omega
  have cell0 : pB S2 (wSc W j) u = none := by
    rcases (s2.2.2.2 j hj).2.2.2.2.2.2.2.2 u hu8 with ⟨-, z⟩ | ⟨y', o', c', f', -, -, -, -, -, -, -, -, -, -, z, -⟩
    · exact z
    · omega
  have shj := s2.2.2.2 j hj
  refine ⟨hvn, ?_, ?_, ?_, ?_⟩
  · refine CLb.cA (A := A) ?_ rfl rfl rfl rfl rfl
    exact b2.ex hv hx4 (fun _ _ => rfl) hg4 (fun _ _ _ z => z) (fun _ _ _ z => z) (fun _ _ _ z => z) (fun z => z) (fun z => z) (fun y' _ h z => by have := tXB y' z; omega)
  · obtain ⟨lb, tlb⟩ := o2.1.exT o2.2.2.1 hx4 (fun _ _ => rfl) hg4 (fun z => z) (fun z => z) (fun y' _ h z => by have := tXB y' z; omega)
    refine ⟨lb, o2.2.1, tlb, fun o' ho' => ?_⟩
    obtain ⟨⟨ko, rb, kb, rl, hls, k3, hcp, hinj⟩, g2, g3, g4, g5⟩ := o2.2.2.2 o' ho'
    have ho5 : o' < 5 := Nat.lt_of_lt_of_le ho' h5
    obtain ⟨lb2, tlb2⟩ := hls.exT g4 hx4 (fun _ _ => rfl) hg4 (fun z => z) (fun z => z) (fun y' _ h z => by have := tXB y' z; omega)
    refine ⟨⟨(eK _ _).mpr ko, by rw [eR]; exact rb, (eK _ _).mpr kb, by rw [eR]; exact rl, lb2, k3, fun i hi => ?_, hinj⟩, by rw [eI]; exact g2, g3, tlb2, fun c' hc' => ?_⟩
    · obtain ⟨kc, rv, kv, nv, hff, hb01⟩ := hcp i hi
      refine ⟨(eK _ _).mpr kc, by rw [eR]; exact rv, (eK _ _).mpr kv, (hx4 _ kv.1).2.2.1.trans nv, fun f' hf1 y' hy' => ?_, by rw [eI]; exact hb01⟩
      rw [eBl o' i ho' hi] at hy'
      rw [eI]
      by_cases hz : o' = o ∧ i = c ∧ f' = f
      · rw [if_pos hz] at hy'
        cases hy'
        exact ⟨⟨(eK _ _).mpr ky, _, by rw [eR]; exact r100, (eK _ _).mpr shj.1.1⟩, by rw [hz.2.2]; exact i98⟩
      · rw [if_neg hz] at hy'
        obtain ⟨⟨w1, w2, w3, w4⟩, w5⟩ := hff f' hf1 y' hy'
        exact ⟨⟨(eK _ _).mpr w1, w2, by rw [eR]; exact w3, (eK _ _).mpr w4⟩, w5⟩
    · obtain ⟨c1, c2, c3, c4⟩ := g5 c' hc'
      refine ⟨c1, c2, by rw [eI]; exact c3, fun f' hf' => ?_⟩
      unfold LF1
      rw [lay_h, lay_s, lay_p, eBl o' c' ho' hc', eI, eR]
      by_cases hz : o' = o ∧ c' = c ∧ f' = f
      · rw [if_pos hz, if_pos hz, if_pos hz, if_pos hz, hz.1, hz.2.1]
        refine Or.inr ⟨rfl, y, rfl, i99.symm, hj, r100, i96, i97, i101, u, hu8, ?_⟩
        show pB S4 (wSc W j) u = some y
        rw [eBc j hj, if_pos ⟨rfl, rfl⟩]
      · rw [if_neg hz, if_neg hz, if_neg hz, if_neg hz]
        rcases c4 f' hf' with w | ⟨d0, y', hy', d1, d2, d3, d4, d5, d6, x, hx8, d7⟩
        · exact Or.inl w
        · refine Or.inr ⟨d0, y', hy', d1, d2, d3, d4, d5, d6, x, hx8, ?_⟩
          show pB S4 (wSc W (aLs A o' c' f')) x = some y'
          rw [eBc _ d2]
          by_cases hq : aLs A o' c' f' = j ∧ x = u
          · have d7' : pB S2 (wSc W (aLs A o' c' f')) x = some y' := d7
            rw [hq.1, hq.2, cell0] at d7'
            cases d7'
          · rw [if_neg hq]
            exact d7
  · obtain ⟨lb, tlb⟩ := s2.1.exT s2.2.2.1 hx4 (fun _ _ => rfl) hg4 (fun z => z) (fun z => z) (fun y' _ h z => by have := tXB y' z; omega)
    refine ⟨lb, s2.2.1, tlb, fun i hi => ?_⟩
    have hi' : i < aNs A := hi
    obtain ⟨g1, g2, g3, g4, g5, g6, g7, g8, g9⟩ := s2.2.2.2 i hi'
    refine ⟨⟨(eK _ _).mpr g1.1, by rw [eR]; exact g1.2.1, (eK _ _).mpr g1.2.2.1, (hx4 _ g1.2.2.1.1).2.2.1.trans g1.2.2.2⟩, g2, g3, by rw [eR]; exact g4, g5.ex hx4 (fun z => z) (fun z => z), g6, by rw [eI]; exact g7, by rw [eI]; exact g8, fun x hx8 => ?_⟩
    unfold CE1
    rw [lay_i, eBc i hi', eI, eR]
    by_cases hz : i = j ∧ x = u
    · rw [if_pos ⟨hz.1, hz.2.trans hu, rfl⟩, if_pos hz, hz.1]
      refine Or.inr ⟨y, o, c, f, rfl, (eK _ _).mpr ky, r100, Or.inl i101, hoo, hcc, h43, i96, i97, i98, rfl, fun _ => ?_⟩
      show pB S4 (wLv W o c) f = some y
      rw [eBl o c hoo hcc, if_pos ⟨rfl, rfl, rfl⟩]
    · rw [if_neg (fun w => hz ⟨w.1, w.2.1.trans hu.symm⟩), if_neg hz]
      rcases g9 x hx8 with w | ⟨y', o', c', f', hy, ky', ry, h101, hoo', hcc', hff', q1, q2, q3, q4, q5⟩
      · exact Or.inl w
      · refine Or.inr ⟨y', o', c', f', hy, (eK _ _).mpr ky', ry, h101, hoo', hcc', hff', q1, q2, q3, q4, fun w => ?_⟩
        show pB S4 (wLv W o' c') f' = some y'
        rw [eBl o' c' hoo' hcc']
        by_cases hq : o' = o ∧ c' = c ∧ f' = f
        · have := q5 w
          rw [hq.1, hq.2.1, hq.2.2, row0] at this
          cases this
        · rw [if_neg hq]
          exact q5 w
  · refine CLr.cA (A := A) ?_ rfl rfl (fun _ => rfl) rfl
    exact r2.ex hx4 (fun _ _ => rfl) (fun _ _ _ z => z) (fun _ _ _ z => z) (fun _ _ z => z)
theorem VF.lay (h : VF A) (hf : f < aLen A (aOb A o)) : VF (lay1 A j o c f p) := by
  intro o' ho' c' f' hf' h1 h2
  rw [lay_h] at h1
  show f' < aLen A (aOb A o')
  by_cases hz : o' = o ∧ c' = c ∧ f' = f
  · rw [hz.1, hz.2.2]; exact hf
  · rw [if_neg hz] at h1
    exact h o' ho' c' f' hf' h1 h2
end LayA

