/-! ===== the law: class and model on one state ===== -/
abbrev rmL : Room := { frames := 13, cells := 601024, slots := 7293033, locals := 484 }
def LI (G : GG) (S : PS) (t md out : Nat) (A : AS) : Prop := ∃ tg W V N R, CL G S tg W A t ∧ MM S tg md V N R ∧ MC N R A ∧ OU S out
def SC (G : GG) (Z : ZZ) (b L : Nat) (xs : Nat → Int32) : Prop := va_X b L xs (zs Z) (zs Z).heap ∧ b < (zs Z).heap.size ∧ G.1 = (zs Z).heap.size
section LawA
variable {G : GG} {Z : ZZ} {own : String} {cc : ByteArray} {nL : Nat} {ret : Option FieldType} {rm : Room} {S S' : PS} {k n pc : Nat} {L : List (Option Value)} {st : List Value} {tg : TG} {W : WT} {A : AS} {t out md : Nat} {V : Nat → Nat} {N : Nat → Int32} {R : Nat → Nat → Int32}
theorem r_scr (hC : CX G Z own cc nL ret rm) {b Ln j : Nat} {xs : Nat → Int32} (hX : SC G Z b Ln xs) (hL3 : Ln ≤ 3072) (hd : decode cc pc = .ok (.iaload, 1)) {i : Int32} (hi : i = nI j) (hj : j < Ln) (kk : J G Z S k n (pc + 1) L (.int (xs j) :: st)) : J G Z S k n pc L (.int i :: va_rf (some b) :: st) := by
  intro H locs ls hW hS hL
  subst hi
  obtain ⟨h1, h2, h3⟩ := hX
  refine va_sld hC.1 hC.2.1 h1 h2 (show ¬ G.1 ≤ b by omega) hS (vp_in_nI hj (by omega)) hd ?_
  rw [nI_clamp (by omega)]
  exact kk H locs ls hW hS hL
theorem r_slen (hC : CX G Z own cc nL ret rm) {b Ln : Nat} {xs : Nat → Int32} (hX : SC G Z b Ln xs) (hd : decode cc pc = .ok (.arraylength, 1)) (kk : J G Z S k n (pc + 1) L (.int (nI Ln) :: st)) : J G Z S k n pc L (va_rf (some b) :: st) := by
  intro H locs ls hW hS hL
  obtain ⟨h1, h2, h3⟩ := hX
  exact va_slen hC.1 hC.2.1 h1 h2 (show ¬ G.1 ≤ b by omega) hS hd (kk H locs ls hW hS hL)
theorem r_lcmp (hC : CX G Z own cc nL ret rm) {x y : Int64} (hd : decode cc pc = .ok (.lcmp, 1)) (kk : J G Z S k n (pc + 1) L (.int (lg_cmp x y) :: st)) : J G Z S k n pc L (.long y :: .long x :: st) :=
  fun H locs ls hW hS hL => W.lcmp hC.1 hC.2.1 hd (kk H locs ls hW hS hL)
theorem lcmp_0 (x : Int64) : lg_cmp x x = 0 := by simp [lg_cmp]
theorem EW.use {r : OP} {v : Option Value} (h : EW G S tg t out r v S') (hM : MM S tg md V N R) (hO : OU S out) : v = some (.int (nI r.1)) ∧ r.1 < 10 ∧ ∃ tg1 W1, CL G S' tg1 W1 r.2.2 t ∧ MM S' tg1 md V N R ∧ OU S' out ∧ (r.1 = 0 → pJ S' out 0 = r.2.1.toInt64) := by
  obtain ⟨e, hlt, tg1, W1, S1, h1, h2, h3, h4⟩ := h
  refine ⟨e, hlt, tg1, W1, ?_⟩
  have m1 := hM.frC h2
  have o1 := hO.frC h2
  rcases h3 with rfl | ⟨g, rfl⟩
  · exact ⟨h1, m1, o1, h4⟩
  · exact ⟨h1.sJ, m1.sJ, o1.sJ, h4⟩
theorem EWv.use {r : OP} {v : Option Value} (h : EWv G S tg t r v S') (hM : MM S tg md V N R) (hO : OU S out) : v = some (.int (nI r.1)) ∧ r.1 < 10 ∧ ∃ tg1 W1, CL G S' tg1 W1 r.2.2 t ∧ MM S' tg1 md V N R ∧ OU S' out := by
  obtain ⟨e, hlt, tg1, W1, h1, h2⟩ := h
  exact ⟨e, hlt, tg1, W1, h1, hM.frC h2, hO.frC h2⟩
theorem EN.use {r : OP} {v : Option Value} (h : EN G S tg t r v S') (hM : MM S tg md V N R) (hO : OU S out) : v = some (.int r.2.1) ∧ r.1 = 0 ∧ ∃ tg1 W1, CL G S' tg1 W1 r.2.2 t ∧ MM S' tg1 md V N R ∧ OU S' out := by
  obtain ⟨e, hv, tg1, W1, h1, h2⟩ := h
  exact ⟨hv, e, tg1, W1, h1, hM.frC h2, hO.frC h2⟩
theorem EM.use {r : OP} {v : Option Value} (h : EM S tg md V r v S') (hC : CL G S tg W r.2.2 t) (hO : OU S out) (hg : gE G ∉ pL S') : ∃ x N' R', v = some (.int x) ∧ (r.1 = 0 → x = r.2.1) ∧ MM S' tg md V N' R' ∧ N' 23 = nI r.1 ∧ LI G S' t md out r.2.2 ∧ pJ S' out = pJ S out ∧ OU S' out := by
  obtain ⟨⟨x, e, hx⟩, N', R', h1, h2, h3⟩ := h
  exact ⟨x, N', R', e, hx, h1.1, h3, ⟨tg, W, V, N', R', hC.frM h1.2 hg, h1.1, h2, hO.frM h1.2⟩, (h1.2 out hO.1.1).2.2.2.2.2.2.2, hO.frM h1.2⟩
theorem EMv.use {r : OP} {v : Option Value} (h : EMv S tg md V r v S') (hC : CL G S tg W r.2.2 t) (hO : OU S out) (hg : gE G ∉ pL S') : v = none ∧ ∃ N' R', MM S' tg md V N' R' ∧ N' 23 = nI r.1 ∧ LI G S' t md out r.2.2 := by
  obtain ⟨e, N', R', h1, h2, h3⟩ := h
  exact ⟨e, N', R', h1.1, h3, ⟨tg, W, V, N', R', hC.frM h1.2 hg, h1.1, h2, hO.frM h1.2⟩⟩
theorem nz_of {r : Nat} (h : r < 10) (e : nI r = 0) : r = 0 := Classical.byContradiction (fun z => nI_ne0 (Nat.pos_of_ne_zero z) (by omega) e)
theorem oIsBound_b (A : AS) (o c : Int32) {x : Int64} (hx : x = (oIsBound A o c).2.1.toInt64) : ((oIsBound A o c).2.1 = 0 → x = 0) ∧ (¬ (oIsBound A o c).2.1 = 0 → x = 1) := by
  rcases oIsBound_01 A o c with e | e
  · rw [e] at hx ⊢
    exact ⟨fun _ => hx, fun z => absurd rfl z⟩
  · rw [e] at hx ⊢
    exact ⟨fun z => absurd z (by decide), fun _ => hx⟩
theorem and31 (x : Int32) : ∃ m, m < 32 ∧ x &&& nI 31 = nI m := by
  refine ⟨(x &&& nI 31).toBitVec.toNat, ?_, ?_⟩
  · rw [Int32.toBitVec_and, BitVec.toNat_and]
    exact Nat.lt_of_le_of_lt Nat.and_le_right (by decide)
  · apply Int32.toBitVec_inj.mp
    apply BitVec.eq_of_toNat_eq
    show _ = (BitVec.ofNat 32 _).toNat
    rw [BitVec.toNat_ofNat, Nat.mod_eq_of_lt (x &&& nI 31).toBitVec.isLt]
theorem len6 {L i : Nat} (hL : L ≤ 3072) (hi : i ≤ 4000) (h : ¬ nI L - nI 6 < nI i) : i + 6 ≤ L := by
  by_cases h6 : 6 ≤ L
  · rw [pk_sub h6] at h
    have : ¬ L - 6 < i := fun z => h ((nI_ltI (by omega) (by omega)).mpr z)
    omega
  · refine absurd ?_ h
    have hneg : nI L - nI 6 < 0 := by
      rcases (show L = 0 ∨ L = 1 ∨ L = 2 ∨ L = 3 ∨ L = 4 ∨ L = 5 by omega) with rfl | rfl | rfl | rfl | rfl | rfl <;> decide
    exact Int32.lt_of_lt_of_le hneg (Int32.not_lt.mp (nI_pos (by omega)))
end LawA

