/-! ===== what the class stands for: numbers and rows, told apart by a role; where its objects lie ===== -/
abbrev AS : Type := (Nat → Nat → Nat → Nat → Nat) × (Nat → Nat → Nat → Nat → Int32)
abbrev aNb (A : AS) : Nat := A.1 0 0 0 0
abbrev aNo (A : AS) : Nat := A.1 0 1 0 0
abbrev aNs (A : AS) : Nat := A.1 0 2 0 0
abbrev aTol (A : AS) : Nat := A.1 0 3 0 0
abbrev aSp (A : AS) : Nat := A.1 0 4 0 0
abbrev aSz (A : AS) (i : Nat) : Nat := A.1 1 i 0 0
abbrev aOb (A : AS) (o : Nat) : Nat := A.1 2 o 0 0
abbrev aNc (A : AS) (o : Nat) : Nat := A.1 3 o 0 0
/-- 0: not bound; n + 1: bound with n frames -/
abbrev aBd (A : AS) (o c : Nat) : Nat := A.1 4 o c 0
/-- 1: there is a leaf of use -/
abbrev aHl (A : AS) (o c f : Nat) : Nat := A.1 5 o c f
abbrev aLs (A : AS) (o c f : Nat) : Nat := A.1 6 o c f
abbrev aFd (A : AS) (k : Nat) : Nat := A.1 7 k 0 0
abbrev aWt (A : AS) (j : Nat) : Nat := A.1 8 j 0 0
/-- 0: not cut; t + 1: cut with the trim t -/
abbrev aTr (A : AS) (j : Nat) : Nat := A.1 9 j 0 0
abbrev aDl (A : AS) (k : Nat) : Nat := A.1 10 k 0 0
/-- 0: nothing lies there; n + 1: the leaf with the code n -/
abbrev aLi (A : AS) (j x : Nat) : Nat := A.1 11 j x 0
abbrev aPs (A : AS) (i : Nat) : Nat → Int32 := A.2 0 i 0
abbrev aBt (A : AS) (i : Nat) : Nat → Int32 := A.2 1 i 0
abbrev aCv (A : AS) (i : Nat) : Nat → Int32 := A.2 2 i 0
abbrev aPos (A : AS) (o c f : Nat) : Int32 := A.2 3 o c f
def uD (A : AS) (r i j k v : Nat) : AS := (fun r' i' j' k' => if r' = r then (if i' = i ∧ j' = j ∧ k' = k then v else A.1 r' i' j' k') else A.1 r' i' j' k', A.2)
def uP (A : AS) (r i : Nat) (g : Nat → Int32) : AS := (A.1, fun r' i' j' => if r' = r then (if i' = i then g else A.2 r' i' j') else A.2 r' i' j')
def aRow (A : AS) (i : Nat) : List Int32 := frs (aPs A i) (aBt A i) (aCv A i) (aSz A i) (aSz A i)
def aLen (A : AS) (i : Nat) : Nat := (aRow A i).length
def posA (A : AS) (i f : Nat) : Int32 := if aLen A i ≤ f then -1 else (aRow A i).getD f 0
def trV (t : Nat) : Int32 := if t = 0 then -1 else nI (t - 1)
/-- what is always so of it -/
def VU (A : AS) : Prop :=
  aNb A ≤ 4 ∧ aNo A ≤ 5 ∧ aNs A ≤ 50 ∧ aTol A ≤ 15 ∧ (∀ i, i < aNb A → aSz A i ≤ 8 ∧ VB (aPs A i) (aBt A i) (aCv A i) (aSz A i)) ∧
  (∀ o, o < aNo A → aOb A o < aNb A ∧ 1 ≤ aNc A o ∧ aNc A o ≤ 3) ∧ (∀ o, o < aNo A → ∀ c, aBd A o c ≤ 44) ∧ okf (aFd A) ∧
  (∀ j, j < aNs A → aWt A j ≤ 1 ∧ aTr A j ≤ 16 ∧ (aWt A j = 1 → aTr A j = 0)) ∧ (∀ k, aDl A k ≤ 60) ∧
  (∀ o, o < aNo A → ∀ c f, f < 43 → aHl A o c f ≤ 1 ∧ (aHl A o c f = 1 → c < aNc A o ∧ aLs A o c f < aNs A ∧ aPos A o c f ≠ -1))
/-- no leaf of a copy that is not bound lies beyond its book -/
def VF (A : AS) : Prop := ∀ o, o < aNo A → ∀ c f, f < 43 → aHl A o c f = 1 → aBd A o c = 0 → f < aLen A (aOb A o)
abbrev WT : Type := Nat → Nat → Nat → Nat
abbrev wLb (W : WT) : Nat := W 0 0 0
abbrev wLo (W : WT) : Nat := W 0 1 0
abbrev wLs (W : WT) : Nat := W 0 2 0
abbrev wUt (W : WT) : Nat := W 0 3 0
abbrev wUd (W : WT) : Nat := W 0 4 0
abbrev wPi (W : WT) : Nat := W 0 5 0
abbrev wAc (W : WT) : Nat := W 0 6 0
abbrev wAh (W : WT) : Nat := W 0 7 0
abbrev wFo (W : WT) : Nat := W 0 8 0
abbrev wFa (W : WT) : Nat := W 0 9 0
abbrev wBk (W : WT) (i : Nat) : Nat := W 1 i 0
abbrev wBp (W : WT) (i : Nat) : Nat := W 2 i 0
abbrev wBe (W : WT) (i : Nat) : Nat := W 3 i 0
abbrev wBc (W : WT) (i : Nat) : Nat := W 4 i 0
abbrev wBr (W : WT) (i : Nat) : Nat := W 5 i 0
abbrev wOo (W : WT) (o : Nat) : Nat := W 6 o 0
abbrev wOl (W : WT) (o : Nat) : Nat := W 7 o 0
abbrev wCp (W : WT) (o c : Nat) : Nat := W 8 o c
abbrev wLv (W : WT) (o c : Nat) : Nat := W 9 o c
abbrev wSh (W : WT) (j : Nat) : Nat := W 10 j 0
abbrev wSc (W : WT) (j : Nat) : Nat := W 11 j 0
abbrev wSd (W : WT) (j : Nat) : Nat := W 12 j 0
abbrev wSa (W : WT) (j : Nat) : Nat := W 13 j 0
abbrev wSf (W : WT) (j : Nat) : Nat → Nat := W 14 j
def uW (W : WT) (r i v : Nat) : WT := fun r' i' j' => if r' = r then (if i' = i then v else W r' i' j') else W r' i' j'
def uWf (W : WT) (r i : Nat) (g : Nat → Nat) : WT := fun r' i' j' => if r' = r then (if i' = i then g j' else W r' i' j') else W r' i' j'
abbrev TG : Type := Nat → Nat
/-- a list's row has the mark t -/
def LA (S : PS) (tg : TG) (a t : Nat) : Prop := ∀ arr, pR S 289 a = some arr → arr ∈ pL S → tg arr = t
def BK1 (S : PS) (tg : TG) (A : AS) (i b p e c r : Nat) : Prop :=
  isBk S b p e c r ∧ tg b = 100 + i ∧ tg p = 200 + i ∧ tg e = 300 + i ∧ tg c = 400 + i ∧ tg r = 500 + i ∧
  pI S 4 b = nI (aSz A i) ∧ pI S 5 b = nI (aLen A i) ∧ pA S p = aPs A i ∧ pA S e = aBt A i ∧ pA S c = aCv A i ∧ holds (pA S r) (aRow A i)
def CLb (G : GG) (S : PS) (tg : TG) (W : WT) (A : AS) : Prop :=
  isList G S (wLb W) (aNb A) 0 (wBk W) ∧ tg (wLb W) = 11 ∧ LA S tg (wLb W) 21 ∧ ∀ i, i < aNb A → BK1 S tg A i (wBk W i) (wBp W i) (wBe W i) (wBc W i) (wBr W i)
/-- the leaf of a frame -/
def LF1 (S : PS) (W : WT) (A : AS) (o c f : Nat) : Prop :=
  (aHl A o c f = 0 ∧ pB S (wLv W o c) f = none) ∨ (aHl A o c f = 1 ∧ ∃ y, pB S (wLv W o c) f = some y ∧ aPos A o c f = pI S 99 y ∧ aLs A o c f < aNs A ∧ pR S 100 y = some (wSh W (aLs A o c f)) ∧
    pI S 96 y = nI o ∧ pI S 97 y = nI c ∧ pI S 101 y = 0 ∧ ∃ x, x < 8 ∧ pB S (wSc W (aLs A o c f)) x = some y)
def CP1 (S : PS) (tg : TG) (W : WT) (A : AS) (o c : Nat) : Prop :=
  tg (wCp W o c) = 800 + 3 * o + c ∧ tg (wLv W o c) = 900 + 3 * o + c ∧ ((aBd A o c = 0 ∧ pI S 33 (wCp W o c) = 0) ∨ (aBd A o c ≠ 0 ∧ pI S 33 (wCp W o c) = 1 ∧ pI S 34 (wCp W o c) = nI (aBd A o c - 1))) ∧ ∀ f, f < 43 → LF1 S W A o c f
def OR1 (G : GG) (S : PS) (tg : TG) (W : WT) (A : AS) (o : Nat) : Prop :=
  isOr G S (wOo W o) (wBk W (aOb A o)) (wOl W o) (aNc A o) (wCp W o) (wLv W o) ∧ pI S 128 (wOo W o) = nI o ∧ tg (wOl W o) = 600 + o ∧ LA S tg (wOl W o) (700 + o) ∧ ∀ c, c < aNc A o → CP1 S tg W A o c
def CLo (G : GG) (S : PS) (tg : TG) (W : WT) (A : AS) : Prop :=
  isList G S (wLo W) (aNo A) 4 (wOo W) ∧ tg (wLo W) = 12 ∧ LA S tg (wLo W) 22 ∧ ∀ o, o < aNo A → OR1 G S tg W A o
/-- what lies in a cell -/
def CE1 (S : PS) (W : WT) (A : AS) (j x : Nat) : Prop :=
  (aLi A j x = 0 ∧ pB S (wSc W j) x = none) ∨ ∃ y o c f, pB S (wSc W j) x = some y ∧ KD S y 3 ∧ pR S 100 y = some (wSh W j) ∧ (pI S 101 y = 0 ∨ pI S 101 y = 1) ∧ o < aNo A ∧ c < aNc A o ∧ f < 43 ∧
    pI S 96 y = nI o ∧ pI S 97 y = nI c ∧ pI S 98 y = nI f ∧ aLi A j x = 10000 * o + 1000 * c + f + 1 ∧ (pI S 101 y = 0 → pB S (wLv W o c) f = some y)
def SH1 (S : PS) (tg : TG) (W : WT) (A : AS) (j : Nat) : Prop :=
  isSh S (wSh W j) (wSc W j) ∧ tg (wSh W j) = 1100 + j ∧ tg (wSc W j) = 1000 + j ∧ pR S 193 (wSh W j) = some (wSd W j) ∧ isFd S (wSd W j) (wSa W j) (wSf W j) ∧ tg (wSa W j) = 5 ∧
  pI S 194 (wSh W j) = nI (aWt A j) ∧ pI S 195 (wSh W j) = trV (aTr A j) ∧ ∀ x, x < 8 → CE1 S W A j x
/-- the sheets; nl of them lie in the list -/
def CLs (G : GG) (S : PS) (tg : TG) (W : WT) (A : AS) (nl : Nat) : Prop :=
  isList G S (wLs W) nl 6 (wSh W) ∧ tg (wLs W) = 13 ∧ LA S tg (wLs W) 23 ∧ ∀ j, j < aNs A → SH1 S tg W A j
def CLr (S : PS) (tg : TG) (W : WT) (A : AS) (t : Nat) : Prop :=
  KD S t 7 ∧ pR S 224 t = some (wLb W) ∧ pR S 225 t = some (wLo W) ∧ pR S 226 t = some (wLs W) ∧ pR S 227 t = some (wUt W) ∧ pR S 228 t = some (wUd W) ∧ pR S 229 t = some (wPi W) ∧ pR S 230 t = some (wFo W) ∧
  pI S 231 t = nI (aTol A) ∧ pI S 232 t = nI (aSp A) ∧ KD S (wUt W) 10 ∧ pN S (wUt W) = 5 ∧ tg (wUt W) = 1 ∧ KD S (wUd W) 10 ∧ pN S (wUd W) = 2 ∧ tg (wUd W) = 2 ∧ (∀ k, k < 2 → pA S (wUd W) k = nI (aDl A k)) ∧
  isPi S (wPi W) (wAc W) (wAh W) ∧ tg (wAc W) = 3 ∧ tg (wAh W) = 4 ∧ isFd S (wFo W) (wFa W) (aFd A) ∧ tg (wFa W) = 5
def CLn (G : GG) (S : PS) (tg : TG) (W : WT) (A : AS) (t nl : Nat) : Prop := VU A ∧ CLb G S tg W A ∧ CLo G S tg W A ∧ CLs G S tg W A nl ∧ CLr S tg W A t
def CL (G : GG) (S : PS) (tg : TG) (W : WT) (A : AS) (t : Nat) : Prop := CLn G S tg W A t (aNs A) ∧ VF A
section ExS
variable {G : GG} {S S' : PS} {tg tg' : TG} {W : WT} {A : AS} {XI XR : Nat → Nat → Prop} {XA XB : Nat → Prop}
theorem isList.la {a n k t : Nat} {el : Nat → Nat} (h : isList G S a n k el) (hl : LA S tg a t) (hx : Ex S S' XI XR XA XB) (ht : ∀ y, y ∈ pL S → tg' y = tg y) (hR : ¬ XR 289 a) (hg : gE G ∉ pL S') : LA S' tg' a t := by
  intro arr ra hin
  obtain ⟨ka, -, arr2, ra2, harr, -⟩ := h
  have e : arr2 = arr := Option.some.inj (ra2.symm.trans (((hx a ka.1).2.2.2.2.1 289 hR).symm.trans ra))
  subst e
  rcases harr with ⟨-, h⟩ | ⟨h, -⟩
  · exact absurd (h ▸ hin) hg
  · rw [ht _ h.1]
    exact hl _ ra2 h.1
theorem isList.ex2 {a n k : Nat} {el : Nat → Nat} (h : isList G S a n k el) (hx : Ex S S' XI XR XA XB) (h1 : ¬ XI 290 a) (h2 : ¬ XR 289 a) (h3 : ∀ arr, pR S 289 a = some arr → arr ∈ pL S → ¬ XB arr) : isList G S' a n k el := by
  obtain ⟨ka, hn, arr, ra, harr, hel⟩ := h
  obtain ⟨b1, b2, b3, b4, b5, b6, b7, b8⟩ := hx a ka.1
  refine ⟨hx.kd ka, (b4 290 h1).trans hn, arr, (b5 289 h2).trans ra, ?_, fun i hi => hx.kd (hel i hi)⟩
  rcases harr with h | ⟨kr, q1, q2, q3, q4⟩
  · exact Or.inl h
  · obtain ⟨c1, c2, c3, c4, c5, c6, c7, c8⟩ := hx arr kr.1
    exact Or.inr ⟨hx.kd kr, by rw [c3]; exact q1, by rw [c3]; exact q2, by rw [c3]; exact q3, fun i hi => by rw [c7 (h3 arr ra kr.1)]; exact q4 i hi⟩
theorem isList.exT {a n k t : Nat} {el : Nat → Nat} (h : isList G S a n k el) (hl : LA S tg a t) (hx : Ex S S' XI XR XA XB) (ht : ∀ y, y ∈ pL S → tg' y = tg y) (hg : gE G ∉ pL S') (l1 : ¬ XI 290 a) (l2 : ¬ XR 289 a) (l3 : ∀ y, y ∈ pL S → tg y = t → ¬ XB y) : isList G S' a n k el ∧ LA S' tg' a t :=
  ⟨h.ex2 hx l1 l2 (fun arr ra hin => l3 arr hin (hl arr ra hin)), h.la hl hx ht l2 hg⟩
theorem isBk.ex {b p e c r : Nat} (h : isBk S b p e c r) (hx : Ex S S' XI XR XA XB) (n2 : ∀ f, f < 6 → ¬ XR f b) : isBk S' b p e c r := by
  obtain ⟨kb, rp, re, rc, rr, kp, np, ke, ne, kc, nc, kr, nr, h6⟩ := h
  obtain ⟨b1, b2, b3, b4, b5, b6, b7, b8⟩ := hx b kb.1
  exact ⟨hx.kd kb, (b5 0 (n2 0 (by decide))).trans rp, (b5 1 (n2 1 (by decide))).trans re, (b5 2 (n2 2 (by decide))).trans rc, (b5 3 (n2 3 (by decide))).trans rr, hx.kd kp, (hx p kp.1).2.2.1.trans np, hx.kd ke, (hx e ke.1).2.2.1.trans ne, hx.kd kc, (hx c kc.1).2.2.1.trans nc, hx.kd kr, (hx r kr.1).2.2.1.trans nr, h6⟩
theorem BK1.ex {i b p e c r : Nat} (h : BK1 S tg A i b p e c r) (hx : Ex S S' XI XR XA XB) (ht : ∀ y, y ∈ pL S → tg' y = tg y) (n1 : ∀ f y, f < 6 → ¬ XI f y) (n2 : ∀ f y, f < 6 → ¬ XR f y) (n3 : ∀ y, 200 ≤ tg y → tg y < 600 → ¬ XA y) (hi : i < 100) : BK1 S' tg' A i b p e c r := by
  obtain ⟨hb, t1, t2, t3, t4, t5, i4, i5, ap, ae, ac, hr⟩ := h
  have hb' := hb.ex hx (fun f hf => n2 f b hf)
  obtain ⟨kb, rp, re, rc, rr, kp, np, ke, ne, kc, nc, kr, nr, h6⟩ := hb
  refine ⟨hb', (ht _ kb.1).trans t1, (ht _ kp.1).trans t2, (ht _ ke.1).trans t3, (ht _ kc.1).trans t4, (ht _ kr.1).trans t5, ((hx b kb.1).2.2.2.1 4 (n1 4 b (by decide))).trans i4, ((hx b kb.1).2.2.2.1 5 (n1 5 b (by decide))).trans i5, ?_, ?_, ?_, ?_⟩
  · rw [(hx p kp.1).2.2.2.2.2.1 (n3 p (by omega) (by omega))]; exact ap
  · rw [(hx e ke.1).2.2.2.2.2.1 (n3 e (by omega) (by omega))]; exact ae
  · rw [(hx c kc.1).2.2.2.2.2.1 (n3 c (by omega) (by omega))]; exact ac
  · rw [(hx r kr.1).2.2.2.2.2.1 (n3 r (by omega) (by omega))]; exact hr
theorem CLb.ex (h : CLb G S tg W A) (hv : VU A) (hx : Ex S S' XI XR XA XB) (ht : ∀ y, y ∈ pL S → tg' y = tg y) (hg : gE G ∉ pL S') (n1 : ∀ f y, f < 6 → ¬ XI f y) (n2 : ∀ f y, f < 6 → ¬ XR f y) (n3 : ∀ y, 200 ≤ tg y → tg y < 600 → ¬ XA y)
    (l1 : ¬ XI 290 (wLb W)) (l2 : ¬ XR 289 (wLb W)) (l3 : ∀ y, y ∈ pL S → tg y = 21 → ¬ XB y) : CLb G S' tg' W A := by
  obtain ⟨h1, h2, h3, h4⟩ := h
  obtain ⟨k1, k2⟩ := h1.exT h3 hx ht hg l1 l2 l3
  exact ⟨k1, (ht _ h1.1.1).trans h2, k2, fun i hi => (h4 i hi).ex hx ht n1 n2 n3 (by have := hv.1; omega)⟩
theorem isFd.ex2 {d a t : Nat} {f : Nat → Nat} (h : isFd S d a f) (hx : Ex S S' XI XR XA XB) (h1 : ∀ y, ¬ XR 64 y) (h2 : ∀ y, tg y = t → ¬ XA y) (hta : tg a = t) : isFd S' d a f := h.ex hx (h1 d) (h2 a hta)
theorem isLf.ex {y : Nat} (h : isLf S y) (hx : Ex S S' XI XR XA XB) (n : ¬ XR 100 y) : isLf S' y := by
  obtain ⟨k, s, r, ks⟩ := h
  exact ⟨hx.kd k, s, ((hx y k.1).2.2.2.2.1 100 n).trans r, hx.kd ks⟩
theorem isCp.ex {c v : Nat} (h : isCp S c v) (hx : Ex S S' XI XR XA XB) (n1 : ∀ f y, f = 33 ∨ f = 98 → ¬ XI f y) (n2 : ∀ f y, f = 32 ∨ f = 100 → ¬ XR f y) (n3 : ¬ XB v) : isCp S' c v := by
  obtain ⟨kc, rv, kv, nv, hf, hb⟩ := h
  have hc := hx c kc.1
  have hv := hx v kv.1
  refine ⟨hx.kd kc, (hc.2.2.2.2.1 32 (n2 _ _ (Or.inl rfl))).trans rv, hx.kd kv, hv.2.2.1.trans nv, fun f hf1 y hy => ?_, ?_⟩
  · rw [hv.2.2.2.2.2.2.1 n3] at hy
    obtain ⟨q1, q2⟩ := hf f hf1 y hy
    exact ⟨q1.ex hx (n2 _ _ (Or.inr rfl)), ((hx y q1.1.1).2.2.2.1 98 (n1 _ _ (Or.inr rfl))).trans q2⟩
  · rw [hc.2.2.2.1 33 (n1 _ _ (Or.inl rfl))]
    exact hb
theorem CP1.ex {o c : Nat} (h : CP1 S tg W A o c) (hcp : isCp S (wCp W o c) (wLv W o c)) (hsc : ∀ j, j < aNs A → wSc W j ∈ pL S ∧ tg (wSc W j) = 1000 + j) (hx : Ex S S' XI XR XA XB) (ht : ∀ y, y ∈ pL S → tg' y = tg y)
    (n1 : ∀ f y, 32 ≤ f → f < 160 → ¬ XI f y) (n2 : ∀ f y, 32 ≤ f → f < 160 → ¬ XR f y) (n3 : ∀ y, 900 ≤ tg y → tg y < 1100 → ¬ XB y) (ho : o < 5) (hc : c < 3) (hs : aNs A ≤ 50) : CP1 S' tg' W A o c := by
  obtain ⟨t1, t2, hb, hf⟩ := h
  have ec := hx _ hcp.1.1
  have ev := hx _ hcp.2.2.1.1
  have eB : pB S' (wLv W o c) = pB S (wLv W o c) := ev.2.2.2.2.2.2.1 (n3 _ (by omega) (by omega))
  refine ⟨(ht _ hcp.1.1).trans t1, (ht _ hcp.2.2.1.1).trans t2, ?_, fun f hf1 => ?_⟩
  · rw [ec.2.2.2.1 33 (n1 _ _ (by decide) (by decide)), ec.2.2.2.1 34 (n1 _ _ (by decide) (by decide))]
    exact hb
  · unfold LF1
    rw [eB]
    rcases hf f hf1 with h | ⟨h1, y, hy, q1, q2, q3, q4, q5, q6, x, hx8, q7⟩
    · exact Or.inl h
    · have ky := (hcp.2.2.2.2.1 f hf1 y hy).1.1
      have ey := hx y ky.1
      have hsj := hsc _ q2
      refine Or.inr ⟨h1, y, hy, q1.trans (ey.2.2.2.1 99 (n1 _ _ (by decide) (by decide))).symm, q2, (ey.2.2.2.2.1 100 (n2 _ _ (by decide) (by decide))).trans q3, (ey.2.2.2.1 96 (n1 _ _ (by decide) (by decide))).trans q4, (ey.2.2.2.1 97 (n1 _ _ (by decide) (by decide))).trans q5, (ey.2.2.2.1 101 (n1 _ _ (by decide) (by decide))).trans q6, x, hx8, ?_⟩
      rw [(hx _ hsj.1).2.2.2.2.2.2.1 (n3 _ (by omega) (by omega))]
      exact q7
theorem isOr.ex {o bk ls nc : Nat} {cp lv : Nat → Nat} {t : Nat} (h : isOr G S o bk ls nc cp lv) (hla : LA S tg ls t) (hx : Ex S S' XI XR XA XB) (ht : ∀ y, y ∈ pL S → tg' y = tg y) (hg : gE G ∉ pL S') (n1 : ∀ f y, 32 ≤ f → f < 160 → ¬ XI f y) (n2 : ∀ f y, 32 ≤ f → f < 160 → ¬ XR f y)
    (l1 : ¬ XI 290 ls) (l2 : ¬ XR 289 ls) (l3 : ∀ y, y ∈ pL S → tg y = t → ¬ XB y) (l4 : ∀ c, c < nc → ¬ XB (lv c)) : isOr G S' o bk ls nc cp lv ∧ LA S' tg' ls t := by
  obtain ⟨ko, rb, kb, rl, hls, h3, hcp, hinj⟩ := h
  obtain ⟨k1, k2⟩ := hls.exT hla hx ht hg l1 l2 l3
  have eo := hx o ko.1
  exact ⟨⟨hx.kd ko, (eo.2.2.2.2.1 129 (n2 _ _ (by decide) (by decide))).trans rb, hx.kd kb, (eo.2.2.2.2.1 130 (n2 _ _ (by decide) (by decide))).trans rl, k1, h3, fun i hi => (hcp i hi).ex hx (fun f y h => n1 f y (by omega) (by omega)) (fun f y h => n2 f y (by omega) (by omega)) (l4 i hi), hinj⟩, k2⟩
theorem OR1.ex {o : Nat} (h : OR1 G S tg W A o) (ho : o < 5) (hs : aNs A ≤ 50) (hsc : ∀ j, j < aNs A → wSc W j ∈ pL S ∧ tg (wSc W j) = 1000 + j) (hx : Ex S S' XI XR XA XB) (ht : ∀ y, y ∈ pL S → tg' y = tg y) (hg : gE G ∉ pL S')
    (n1 : ∀ f y, 32 ≤ f → f < 160 → ¬ XI f y) (n2 : ∀ f y, 32 ≤ f → f < 160 → ¬ XR f y) (n3 : ∀ y, y ∈ pL S → 700 ≤ tg y → tg y < 1100 → ¬ XB y) (l1 : ∀ y, 600 ≤ tg y → tg y < 700 → ¬ XI 290 y) (l2 : ∀ y, 600 ≤ tg y → tg y < 700 → ¬ XR 289 y) : OR1 G S' tg' W A o := by
  obtain ⟨hor, i128, t1, hla, hcp⟩ := h
  have h3 := hor.2.2.2.2.2.1
  have hC := hor.2.2.2.2.2.2.1
  obtain ⟨k1, k2⟩ := hor.ex hla hx ht hg n1 n2 (l1 _ (by omega) (by omega)) (l2 _ (by omega) (by omega)) (fun y hy h => n3 y hy (by omega) (by omega)) (fun c hc => n3 _ (hC c hc).2.2.1.1 (by have := (hcp c hc).2.1; omega) (by have := (hcp c hc).2.1; omega))
  refine ⟨k1, ((hx _ hor.1.1).2.2.2.1 128 (n1 _ _ (by decide) (by decide))).trans i128, (ht _ hor.2.2.2.2.1.1.1).trans t1, k2, fun c hc => ?_⟩
  refine (hcp c hc).ex (XA := XA) (XB := fun y => XB y ∧ y ∈ pL S) (hC c hc) hsc (fun y hy => ?_) ht n1 n2 (fun y h1 h2 h3 => n3 y h3.2 (by omega) (by omega) h3.1) ho (by omega) hs
  obtain ⟨a1, a2, a3, a4, a5, a6, a7, a8⟩ := hx y hy
  exact ⟨a1, a2, a3, a4, a5, a6, fun z => a7 (fun w => z ⟨w, hy⟩), a8⟩
theorem CLo.ex (h : CLo G S tg W A) (hv : VU A) (hsc : ∀ j, j < aNs A → wSc W j ∈ pL S ∧ tg (wSc W j) = 1000 + j) (hx : Ex S S' XI XR XA XB) (ht : ∀ y, y ∈ pL S → tg' y = tg y) (hg : gE G ∉ pL S')
    (n1 : ∀ f y, 32 ≤ f → f < 160 → ¬ XI f y) (n2 : ∀ f y, 32 ≤ f → f < 160 → ¬ XR f y) (n3 : ∀ y, y ∈ pL S → tg y = 22 ∨ 700 ≤ tg y ∧ tg y < 1100 → ¬ XB y) (l1 : ∀ y, tg y = 12 ∨ 600 ≤ tg y ∧ tg y < 700 → ¬ XI 290 y) (l2 : ∀ y, tg y = 12 ∨ 600 ≤ tg y ∧ tg y < 700 → ¬ XR 289 y) : CLo G S' tg' W A := by
  obtain ⟨h1, h2, h3, h4⟩ := h
  obtain ⟨k1, k2⟩ := h1.exT h3 hx ht hg (l1 _ (Or.inl h2)) (l2 _ (Or.inl h2)) (fun y hy h => n3 y hy (Or.inl h))
  exact ⟨k1, (ht _ h1.1.1).trans h2, k2, fun o ho => (h4 o ho).ex (by have := hv.2.1; omega) hv.2.2.1 hsc hx ht hg n1 n2 (fun y hy a b => n3 y hy (Or.inr ⟨a, b⟩)) (fun y a b => l1 y (Or.inr ⟨a, b⟩)) (fun y a b => l2 y (Or.inr ⟨a, b⟩))⟩
theorem CLs.sc {nl : Nat} (h : CLs G S tg W A nl) : ∀ j, j < aNs A → wSc W j ∈ pL S ∧ tg (wSc W j) = 1000 + j := fun j hj => ⟨(h.2.2.2 j hj).1.2.2.1.1, (h.2.2.2 j hj).2.2.1⟩
theorem CLo.lv (h : CLo G S tg W A) : ∀ o c, o < aNo A → c < aNc A o → wLv W o c ∈ pL S ∧ tg (wLv W o c) = 900 + 3 * o + c := fun o c ho hc => ⟨((h.2.2.2 o ho).1.2.2.2.2.2.2.1 c hc).2.2.1.1, ((h.2.2.2 o ho).2.2.2.2 c hc).2.1⟩
theorem SH1.ex {j : Nat} (h : SH1 S tg W A j) (hj : j < 50) (hv : VU A) (hlv : ∀ o c, o < aNo A → c < aNc A o → wLv W o c ∈ pL S ∧ tg (wLv W o c) = 900 + 3 * o + c) (hx : Ex S S' XI XR XA XB) (ht : ∀ y, y ∈ pL S → tg' y = tg y)
    (n1 : ∀ f y, 96 ≤ f → f < 102 ∨ f = 194 ∨ f = 195 → ¬ XI f y) (n2 : ∀ f y, f = 64 ∨ f = 100 ∨ f = 192 ∨ f = 193 → ¬ XR f y) (n3 : ∀ y, tg y = 5 → ¬ XA y) (n4 : ∀ y, y ∈ pL S → 900 ≤ tg y → tg y < 1100 → ¬ XB y) : SH1 S' tg' W A j := by
  obtain ⟨hs, t1, t2, rd, hd, t5, i4, i5, hc⟩ := h
  have es := hx _ hs.1.1
  refine ⟨⟨hx.kd hs.1, (es.2.2.2.2.1 192 (n2 _ _ (by decide))).trans hs.2.1, hx.kd hs.2.2.1, (hx _ hs.2.2.1.1).2.2.1.trans hs.2.2.2⟩, (ht _ hs.1.1).trans t1, (ht _ hs.2.2.1.1).trans t2, (es.2.2.2.2.1 193 (n2 _ _ (by decide))).trans rd, hd.ex hx (n2 _ _ (Or.inl rfl)) (n3 _ t5), (ht _ hd.2.2.1.1).trans t5, (es.2.2.2.1 194 (n1 _ _ (by decide) (by decide))).trans i4, (es.2.2.2.1 195 (n1 _ _ (by decide) (by decide))).trans i5, fun x hx8 => ?_⟩
  unfold CE1
  rw [(hx _ hs.2.2.1.1).2.2.2.2.2.2.1 (n4 _ hs.2.2.1.1 (by omega) (by omega))]
  rcases hc x hx8 with h | ⟨y, o, c, f, hy, ky, ry, h101, ho, hcc, hf, q1, q2, q3, q4, q5⟩
  · exact Or.inl h
  · have ey := hx y ky.1
    have e101 := ey.2.2.2.1 101 (n1 _ _ (by decide) (by decide))
    refine Or.inr ⟨y, o, c, f, hy, hx.kd ky, (ey.2.2.2.2.1 100 (n2 _ _ (by decide))).trans ry, by rw [e101]; exact h101, ho, hcc, hf, (ey.2.2.2.1 96 (n1 _ _ (by decide) (by decide))).trans q1, (ey.2.2.2.1 97 (n1 _ _ (by decide) (by decide))).trans q2, (ey.2.2.2.1 98 (n1 _ _ (by decide) (by decide))).trans q3, q4, fun h => ?_⟩
    obtain ⟨l1, l2⟩ := hlv o c ho hcc
    have hO := (hv.2.2.2.2.2.1 o ho).2.2
    have h5 := hv.2.1
    rw [(hx _ l1).2.2.2.2.2.2.1 (n4 _ l1 (by omega) (by omega))]
    exact q5 (e101.symm.trans h)
theorem CLs.ex {nl : Nat} (h : CLs G S tg W A nl) (hv : VU A) (hlv : ∀ o c, o < aNo A → c < aNc A o → wLv W o c ∈ pL S ∧ tg (wLv W o c) = 900 + 3 * o + c) (hx : Ex S S' XI XR XA XB) (ht : ∀ y, y ∈ pL S → tg' y = tg y) (hg : gE G ∉ pL S')
    (n1 : ∀ f y, 96 ≤ f → f < 102 ∨ f = 194 ∨ f = 195 → ¬ XI f y) (n2 : ∀ f y, f = 64 ∨ f = 100 ∨ f = 192 ∨ f = 193 → ¬ XR f y) (n3 : ∀ y, tg y = 5 → ¬ XA y) (n4 : ∀ y, y ∈ pL S → tg y = 23 ∨ 900 ≤ tg y ∧ tg y < 1100 → ¬ XB y) (l1 : ¬ XI 290 (wLs W)) (l2 : ¬ XR 289 (wLs W)) : CLs G S' tg' W A nl := by
  obtain ⟨h1, h2, h3, h4⟩ := h
  obtain ⟨k1, k2⟩ := h1.exT h3 hx ht hg l1 l2 (fun y hy h => n4 y hy (Or.inl h))
  exact ⟨k1, (ht _ h1.1.1).trans h2, k2, fun j hj => (h4 j hj).ex (by have := hv.2.2.1; omega) hv hlv hx ht n1 n2 n3 (fun y hy a b => n4 y hy (Or.inr ⟨a, b⟩))⟩
theorem isPi.ex2 {p ac ah : Nat} (h : isPi S p ac ah) (hx : Ex S S' XI XR XA XB) (n : ∀ f y, f = 160 ∨ f = 161 → ¬ XR f y) : isPi S' p ac ah := by
  obtain ⟨k1, r1, r2, k2, n2, k3, n3, hne⟩ := h
  exact ⟨hx.kd k1, ((hx p k1.1).2.2.2.2.1 160 (n _ _ (Or.inl rfl))).trans r1, ((hx p k1.1).2.2.2.2.1 161 (n _ _ (Or.inr rfl))).trans r2, hx.kd k2, ((hx ac k2.1).2.2.1).trans n2, hx.kd k3, ((hx ah k3.1).2.2.1).trans n3, hne⟩
theorem CLr.ex {t : Nat} (h : CLr S tg W A t) (hx : Ex S S' XI XR XA XB) (ht : ∀ y, y ∈ pL S → tg' y = tg y) (n1 : ∀ f y, f = 231 ∨ f = 232 → ¬ XI f y) (n2 : ∀ f y, f = 64 ∨ f = 160 ∨ f = 161 ∨ 224 ≤ f ∧ f < 231 → ¬ XR f y) (n3 : ∀ y, tg y = 2 ∨ tg y = 5 → ¬ XA y) : CLr S' tg' W A t := by
  obtain ⟨kt, r0, r1, r2, r3, r4, r5, r6, i1, i2, ku, nu, tu, kd, nd, td, hd, hp, tc, th, hf, tf⟩ := h
  have et := hx t kt.1
  have R : ∀ f v, 224 ≤ f → f < 231 → pR S f t = some v → pR S' f t = some v := fun f v h1 h2 h => (et.2.2.2.2.1 f (n2 f t (by omega))).trans h
  refine ⟨hx.kd kt, R _ _ (by decide) (by decide) r0, R _ _ (by decide) (by decide) r1, R _ _ (by decide) (by decide) r2, R _ _ (by decide) (by decide) r3, R _ _ (by decide) (by decide) r4, R _ _ (by decide) (by decide) r5, R _ _ (by decide) (by decide) r6, (et.2.2.2.1 231 (n1 _ _ (Or.inl rfl))).trans i1, (et.2.2.2.1 232 (n1 _ _ (Or.inr rfl))).trans i2, hx.kd ku, (hx _ ku.1).2.2.1.trans nu, (ht _ ku.1).trans tu, hx.kd kd, (hx _ kd.1).2.2.1.trans nd, (ht _ kd.1).trans td, fun k hk => ?_, hp.ex2 hx (fun f y h => n2 f y (by omega)), (ht _ hp.2.2.2.1.1).trans tc, (ht _ hp.2.2.2.2.2.1.1).trans th, hf.ex hx (n2 _ _ (by omega)) (n3 _ (Or.inr tf)), (ht _ hf.2.2.1.1).trans tf⟩
  rw [(hx _ kd.1).2.2.2.2.2.1 (n3 _ (Or.inl td))]
  exact hd k hk
end ExS
section CongA
variable {G : GG} {S : PS} {tg : TG} {W : WT} {A A' : AS}
theorem CLb.cA (h : CLb G S tg W A) (e0 : A'.1 0 0 0 0 = A.1 0 0 0 0) (e1 : A'.1 1 = A.1 1) (p0 : A'.2 0 = A.2 0) (p1 : A'.2 1 = A.2 1) (p2 : A'.2 2 = A.2 2) : CLb G S tg W A' := by
  simp only [CLb, BK1, aLen, aRow, aNb, aSz, aPs, aBt, aCv, e0, e1, p0, p1, p2] at h ⊢
  exact h
theorem CLo.cA (h : CLo G S tg W A) (e0 : A'.1 0 1 0 0 = A.1 0 1 0 0) (e1 : A'.1 0 2 0 0 = A.1 0 2 0 0) (e2 : A'.1 2 = A.1 2) (e3 : A'.1 3 = A.1 3) (e4 : A'.1 4 = A.1 4) (e5 : A'.1 5 = A.1 5) (e6 : A'.1 6 = A.1 6) (p3 : A'.2 3 = A.2 3) : CLo G S tg W A' := by
  simp only [CLo, OR1, CP1, LF1, aNo, aNs, aOb, aNc, aBd, aHl, aLs, aPos, e0, e1, e2, e3, e4, e5, e6, p3] at h ⊢
  exact h
theorem CLs.cA {nl : Nat} (h : CLs G S tg W A nl) (e0 : A'.1 0 1 0 0 = A.1 0 1 0 0) (e1 : A'.1 0 2 0 0 = A.1 0 2 0 0) (e3 : A'.1 3 = A.1 3) (e8 : A'.1 8 = A.1 8) (e9 : A'.1 9 = A.1 9) (e11 : A'.1 11 = A.1 11) : CLs G S tg W A' nl := by
  simp only [CLs, SH1, CE1, aNo, aNs, aNc, aWt, aTr, aLi, e0, e1, e3, e8, e9, e11] at h ⊢
  exact h
theorem CLr.cA {t : Nat} (h : CLr S tg W A t) (e0 : A'.1 0 3 0 0 = A.1 0 3 0 0) (e1 : A'.1 0 4 0 0 = A.1 0 4 0 0) (e7 : ∀ k, A'.1 7 k 0 0 = A.1 7 k 0 0) (e10 : A'.1 10 = A.1 10) : CLr S tg W A' t := by
  have e7' : (fun k => A'.1 7 k 0 0) = fun k => A.1 7 k 0 0 := funext e7
  unfold CLr at h ⊢
  rw [show aTol A' = aTol A from e0, show aSp A' = aSp A from e1, show aFd A' = aFd A from e7', show aDl A' = aDl A by unfold aDl; rw [e10]]
  exact h
end CongA
theorem isList.cong {G : GG} {S : PS} {a n k : Nat} {el el' : Nat → Nat} (h : isList G S a n k el) (e : ∀ i, i < n → el' i = el i) : isList G S a n k el' := by
  obtain ⟨ka, hn, arr, ra, harr, hel⟩ := h
  refine ⟨ka, hn, arr, ra, ?_, fun i hi => by rw [e i hi]; exact hel i hi⟩
  rcases harr with h | ⟨h1, h2, h3, h4, h5⟩
  · exact Or.inl h
  · exact Or.inr ⟨h1, h2, h3, h4, fun i hi => by rw [e i hi]; exact h5 i hi⟩
section CongW
variable {G : GG} {S : PS} {tg : TG} {W W' : WT} {A : AS}
theorem CLb.cW (h : CLb G S tg W A) (e0 : ∀ i, i < 8 → W' 0 i = W 0 i) (e1 : ∀ i, i < aNb A → W' 1 i = W 1 i ∧ W' 2 i = W 2 i ∧ W' 3 i = W 3 i ∧ W' 4 i = W 4 i ∧ W' 5 i = W 5 i) : CLb G S tg W' A := by
  obtain ⟨h1, h2, h3, h4⟩ := h
  have z := e0 0 (by decide)
  refine ⟨?_, by show tg (W' 0 0 0) = 11; rw [z]; exact h2, by show LA S tg (W' 0 0 0) 21; rw [z]; exact h3, fun i hi => ?_⟩
  · show isList G S (W' 0 0 0) _ _ _
    rw [z]
    exact h1.cong (fun i hi => by show W' 1 i 0 = W 1 i 0; rw [(e1 i hi).1])
  · obtain ⟨a1, a2, a3, a4, a5⟩ := e1 i hi
    show BK1 S tg A i (W' 1 i 0) (W' 2 i 0) (W' 3 i 0) (W' 4 i 0) (W' 5 i 0)
    rw [a1, a2, a3, a4, a5]
    exact h4 i hi
theorem CLo.cW (h : CLo G S tg W A) (hv : VU A) (e0 : ∀ i, i < 8 → W' 0 i = W 0 i) (e1 : ∀ i, i < aNb A → W' 1 i 0 = W 1 i 0) (e6 : ∀ o, o < aNo A → W' 6 o = W 6 o ∧ W' 7 o = W 7 o ∧ W' 8 o = W 8 o ∧ W' 9 o = W 9 o) (e10 : ∀ j, j < aNs A → W' 10 j = W 10 j ∧ W' 11 j = W 11 j) : CLo G S tg W' A := by
  obtain ⟨h1, h2, h3, h4⟩ := h
  have z := e0 1 (by decide)
  refine ⟨?_, by show tg (W' 0 1 0) = 12; rw [z]; exact h2, by show LA S tg (W' 0 1 0) 22; rw [z]; exact h3, fun o ho => ?_⟩
  · show isList G S (W' 0 1 0) _ _ _
    rw [z]
    exact h1.cong (fun i hi => by show W' 6 i 0 = W 6 i 0; rw [(e6 i hi).1])
  · obtain ⟨a1, a2, a3, a4⟩ := e6 o ho
    have b1 := e1 _ (hv.2.2.2.2.2.1 o ho).1
    obtain ⟨g1, g2, g3, g4, g5⟩ := h4 o ho
    refine ⟨?_, by show pI S 128 (W' 6 o 0) = _; rw [a1]; exact g2, by show tg (W' 7 o 0) = _; rw [a2]; exact g3, by show LA S tg (W' 7 o 0) _; rw [a2]; exact g4, fun c hc => ?_⟩
    · show isOr G S (W' 6 o 0) (W' 1 (aOb A o) 0) (W' 7 o 0) _ (W' 8 o) (W' 9 o)
      rw [a1, a2, a3, a4, b1]
      exact g1
    · obtain ⟨c1, c2, c3, c4⟩ := g5 c hc
      unfold CP1 LF1
      show tg (W' 8 o c) = _ ∧ tg (W' 9 o c) = _ ∧ (_ ∧ pI S 33 (W' 8 o c) = 0 ∨ _ ∧ pI S 33 (W' 8 o c) = 1 ∧ pI S 34 (W' 8 o c) = _) ∧ ∀ f, f < 43 → (_ ∧ pB S (W' 9 o c) f = none) ∨ (_ ∧ ∃ y, pB S (W' 9 o c) f = some y ∧ _)
      rw [a3, a4]
      refine ⟨c1, c2, c3, fun f hf => ?_⟩
      rcases c4 f hf with h | ⟨d0, y, hy, d1, d2, d3, d4, d5, d6, x, hx, d7⟩
      · exact Or.inl h
      · obtain ⟨m1, m2⟩ := e10 _ d2
        refine Or.inr ⟨d0, y, hy, d1, d2, ?_, d4, d5, d6, x, hx, ?_⟩
        · show _ = some (W' 10 (aLs A o c f) 0)
          rw [m1]; exact d3
        · show pB S (W' 11 (aLs A o c f) 0) x = _
          rw [m2]; exact d7
theorem CLs.cW {nl : Nat} (h : CLs G S tg W A nl) (hn : nl ≤ aNs A) (e0 : ∀ i, i < 8 → W' 0 i = W 0 i) (e9 : ∀ o, o < aNo A → W' 9 o = W 9 o) (e10 : ∀ j, j < aNs A → W' 10 j = W 10 j ∧ W' 11 j = W 11 j ∧ W' 12 j = W 12 j ∧ W' 13 j = W 13 j ∧ W' 14 j = W 14 j) : CLs G S tg W' A nl := by
  obtain ⟨h1, h2, h3, h4⟩ := h
  have z := e0 2 (by decide)
  refine ⟨?_, by show tg (W' 0 2 0) = 13; rw [z]; exact h2, by show LA S tg (W' 0 2 0) 23; rw [z]; exact h3, fun j hj => ?_⟩
  · show isList G S (W' 0 2 0) _ _ _
    rw [z]
    exact h1.cong (fun i hi => by show W' 10 i 0 = W 10 i 0; rw [(e10 i (Nat.lt_of_lt_of_le hi hn)).1])
  · obtain ⟨a1, a2, a3, a4, a5⟩ := e10 j hj
    obtain ⟨g1, g2, g3, g4, g5, g6, g7, g8, g9⟩ := h4 j hj
    unfold SH1 CE1
    show isSh S (W' 10 j 0) (W' 11 j 0) ∧ tg (W' 10 j 0) = _ ∧ tg (W' 11 j 0) = _ ∧ pR S 193 (W' 10 j 0) = some (W' 12 j 0) ∧ isFd S (W' 12 j 0) (W' 13 j 0) (W' 14 j) ∧ tg (W' 13 j 0) = 5 ∧ pI S 194 (W' 10 j 0) = _ ∧ pI S 195 (W' 10 j 0) = _ ∧ ∀ x, x < 8 → (_ ∧ pB S (W' 11 j 0) x = none) ∨ (∃ y o c f, pB S (W' 11 j 0) x = some y ∧ KD S y 3 ∧ pR S 100 y = some (W' 10 j 0) ∧ _)
    rw [a1, a2, a3, a4, a5]
    refine ⟨g1, g2, g3, g4, g5, g6, g7, g8, fun x hx => ?_⟩
    rcases g9 x hx with h | ⟨y, o, c, f, hy, ky, ry, h101, ho, hcc, hf, q1, q2, q3, q4, q5⟩
    · exact Or.inl h
    · refine Or.inr ⟨y, o, c, f, hy, ky, ry, h101, ho, hcc, hf, q1, q2, q3, q4, fun h => ?_⟩
      show pB S (W' 9 o c) f = _
      rw [e9 o ho]
      exact q5 h
theorem CLr.cW {t : Nat} (h : CLr S tg W A t) (e0 : W' 0 = W 0) : CLr S tg W' A t := by
  simp only [CLr, wLb, wLo, wLs, wUt, wUd, wPi, wAc, wAh, wFo, wFa, e0] at h ⊢
  exact h
end CongW
/-- new marks for new things -/
def tgx (S : PS) (tg : TG) (g : Nat → Nat) : TG := fun y => if y ∈ pL S then tg y else g y
theorem tgx_o {S : PS} {tg : TG} {g : Nat → Nat} : ∀ y, y ∈ pL S → tgx S tg g y = tg y := fun y h => if_pos h
theorem tgx_n {S : PS} {tg : TG} {g : Nat → Nat} {y : Nat} (h : y ∉ pL S) : tgx S tg g y = g y := if_neg h

