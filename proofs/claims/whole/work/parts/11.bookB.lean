/-! ===== books: in-betweens and the whole row ===== -/
theorem ii1 (n : Nat) : nI n + Int32.ofInt 1 = nI (n + 1) := nI_1 n
theorem iim1 (n : Nat) : nI (n + 1) + Int32.ofInt (-1) = nI n := pk_m1 n
/-- how much of the way is gone, in parts of N * N -/
def shrN (j N k : Nat) : Nat := if k = 1 then j * j else if k = 2 then N * N - (N - j) * (N - j) else if k = 3 then (if 2 * j ≤ N then 2 * j * j else N * N - 2 * (N - j) * (N - j)) else j * N
theorem shr_1 : ∀ j, j < 7 → nI j * nI j = nI (j * j) := by decide
theorem shr_2 : ∀ N, N < 7 → ∀ j, j < 7 → j ≤ N → nI N * nI N - (nI N - nI j) * (nI N - nI j) = nI (N * N - (N - j) * (N - j)) := by decide
theorem shr_3a : ∀ j, j < 7 → nI 2 * nI j * nI j = nI (2 * j * j) := by decide
theorem shr_3b : ∀ N, N < 7 → ∀ j, j < 7 → j ≤ N → N < 2 * j → nI N * nI N - nI 2 * (nI N - nI j) * (nI N - nI j) = nI (N * N - 2 * (N - j) * (N - j)) := by decide
theorem shr_3c : ∀ N, N < 7 → ∀ j, j < 7 → (nI N < nI 2 * nI j ↔ N < 2 * j) := by decide
/-- the j-th of N - 1 in-betweens from x to y by the curve k -/
def mid (x y : Int32) (j N k : Nat) : Int32 := x + (y - x) * nI (shrN j N k) / nI (N * N)
def bkS (S : PS) (b r : Nat) (g : Nat → Int32) (v : Int32) : PS := sI (sA S r g) 5 b v
theorem upd_self (f : Nat → Int32) (k : Nat) (x : Int32) : upd f k x k = x := pk_us
theorem u2_u2 {α : Type} (f : Nat → Nat → α) (k a : Nat) (v w : α) : u2 (u2 f k a v) k a w = u2 f k a w := by
  funext k' a'
  simp only [u2]
  split
  · split <;> rfl
  · rfl
theorem va_up_up {α : Type} (f : Nat → α) (a : Nat) (v w : α) : va_up (va_up f a v) a w = va_up f a w := by
  funext x
  simp only [va_up]
  split <;> rfl
theorem u2_id {α : Type} (f : Nat → Nat → α) {k a : Nat} {v : α} (h : f k a = v) : u2 f k a v = f := by
  funext k' a'
  simp only [u2]
  split
  · rename_i h1
    split
    · rename_i h2
      rw [h1, h2, h]
    · rfl
  · rfl
theorem va_up_id {α : Type} (f : Nat → α) {a : Nat} {v : α} (h : f a = v) : va_up f a v = f := by
  funext x
  simp only [va_up]
  split
  · rename_i h1
    rw [h1, h]
  · rfl
theorem bk_add (S : PS) (b r n : Nat) (g : Nat → Int32) (v w x : Int32) : sI (sA (bkS S b r g v) r (upd (pA (bkS S b r g v) r) n x)) 5 b w = bkS S b r (upd g n x) w := by
  have e : pA (bkS S b r g v) r = g := va_up_self _ _ _
  rw [e]
  simp only [bkS, sI, sA, u2_u2, va_up_up]
theorem bk_I (S : PS) (b r : Nat) (g : Nat → Int32) (v : Int32) : pI (bkS S b r g v) 5 b = v := u2_s (pI S) 5 b v
theorem bk_bk (S : PS) (b r : Nat) (g g' : Nat → Int32) (v w : Int32) : bkS (bkS S b r g v) b r g' w = bkS S b r g' w := by
  simp only [bkS, sI, sA, u2_u2, va_up_up]
theorem bk_self {S : PS} {b r : Nat} {v : Int32} (h : pI S 5 b = v) : bkS S b r (pA S r) v = S := by
  simp only [bkS, sI, sA]
  rw [va_up_id (f := S.2.2.2.2.2.1) rfl, u2_id _ h]
def holds (g : Nat → Int32) (fl : List Int32) : Prop := ∀ j, j < fl.length → g j = fl.getD j 0
def seg (pos btw crv : Nat → Int32) (n i : Nat) : List Int32 := pos i :: (if i + 1 < n then (List.range (btw i).toNatClampNeg).map (fun j => mid (pos i) (pos (i + 1)) (j + 1) ((btw i).toNatClampNeg + 1) (crv i).toNatClampNeg) else [])
def frs (pos btw crv : Nat → Int32) (n : Nat) : Nat → List Int32
  | 0 => []
  | i + 1 => frs pos btw crv n i ++ seg pos btw crv n i
def VB (pos btw crv : Nat → Int32) (n : Nat) : Prop := ∀ i, i < n → (∃ a, a ≤ 999 ∧ pos i = nI a) ∧ (∃ a, a ≤ 5 ∧ btw i = nI a) ∧ ∃ a, a ≤ 3 ∧ crv i = nI a
theorem seg_len {pos btw crv : Nat → Int32} {n i : Nat} (h : VB pos btw crv n) (hi : i < n) : (seg pos btw crv n i).length ≤ if i + 1 < n then 6 else 1 := by
  obtain ⟨-, ⟨m, hm, e⟩, -⟩ := h i hi
  unfold seg
  split
  · simp [e, nI_clamp (show m < 2 ^ 31 by omega)]
    omega
  · simp
theorem frs_len {pos btw crv : Nat → Int32} {n : Nat} (h : VB pos btw crv n) : ∀ i, i ≤ n → (frs pos btw crv n i).length ≤ if i < n then 6 * i else 6 * i - 5 := by
  intro i
  induction i with
  | zero => intro _; simp [frs]
  | succ i ih =>
    intro hi
    have h1 := ih (by omega)
    have h2 := seg_len h (show i < n by omega)
    rw [if_pos (by omega)] at h1
    simp only [frs, List.length_append]
    split at h2
    · rw [if_pos (by omega)]; omega
    · rw [if_neg (by omega)]; omega
theorem holds_add {g g' : Nat → Int32} {fl fl' : List Int32} (h : holds g fl) (h1 : ∀ j, j < fl.length → g' j = g j) (h2 : ∀ j, j < fl'.length → g' (fl.length + j) = fl'.getD j 0) : holds g' (fl ++ fl') := by
  intro j hj
  by_cases hlt : j < fl.length
  · rw [h1 j hlt, h j hlt]
    simp [List.getD, List.getElem?_append_left hlt]
  · have e := h2 (j - fl.length) (by rw [List.length_append] at hj; omega)
    rw [show fl.length + (j - fl.length) = j by omega] at e
    rw [e]
    simp [List.getD, List.getElem?_append_right (show fl.length ≤ j by omega)]
section BookB
variable {l : Launch} {G : GG} {S : PS} {b p e c r : Nat}
set_option maxRecDepth 100000 in
theorem c_shareOfWay (hl : l.stackTraces = false) {j N k : Nat} (hN : N < 7) (hj : j ≤ N) (hk : k ≤ 3) :
    MT l G S yX0_shareOfWay cX0_shareOfWay 4 (some .int) (rmA 0) [.int (nI j), .int (nI N), .int (nI k)] (fun v S' => v = some (.int (nI (shrN j N k))) ∧ S' = S) (fun _ => False) := by
  refine MT_of (by decide +kernel) hl rfl (Nat.le_of_ble_eq_true rfl) (fun Z hC _ hnm hT hQ => ?_)
  change J G Z S 0 0 0 [some (.int (nI j)), some (.int (nI N)), some (.int (nI k)), none] []
  refine r_iload_n hC dX0_shareOfWay_0 rfl rfl ?_
  refine r_iload_n hC dX0_shareOfWay_1 rfl rfl ?_
  refine r_isub hC dX0_shareOfWay_2 ?_
  refine r_istore_n hC dX0_shareOfWay_3 rfl (by decide) ?_
  refine r_iload_n hC dX0_shareOfWay_4 rfl rfl ?_
  rcases (show k = 0 ∨ k = 1 ∨ k = 2 ∨ k = 3 by omega) with rfl | rfl | rfl | rfl
  · refine r_tabOut (tgt := 69) hC dX0_shareOfWay_5 (by decide) (by decide) ?_
    refine r_iload_n hC dX0_shareOfWay_69 rfl rfl ?_
    refine r_iload_n hC dX0_shareOfWay_70 rfl rfl ?_
    refine r_imul hC dX0_shareOfWay_71 ?_
    refine r_iret hC hQ rfl dX0_shareOfWay_72 (Nat.le_of_ble_eq_true rfl) (Nat.le_of_ble_eq_true rfl) ?_
    exact ⟨by rw [pk_mul]; rfl, rfl⟩
  · refine r_tabIn (tgt := 32) (off := 27) hC dX0_shareOfWay_5 (by decide) (by decide) (by decide) (by decide) ?_
    refine r_iload_n hC dX0_shareOfWay_32 rfl rfl ?_
    refine r_iload_n hC dX0_shareOfWay_33 rfl rfl ?_
    refine r_imul hC dX0_shareOfWay_34 ?_
    refine r_iret hC hQ rfl dX0_shareOfWay_35 (Nat.le_of_ble_eq_true rfl) (Nat.le_of_ble_eq_true rfl) ?_
    exact ⟨by rw [pk_mul]; rfl, rfl⟩
  · refine r_tabIn (tgt := 36) (off := 31) hC dX0_shareOfWay_5 (by decide) (by decide) (by decide) (by decide) ?_
    refine r_iload_n hC dX0_shareOfWay_36 rfl rfl ?_
    refine r_iload_n hC dX0_shareOfWay_37 rfl rfl ?_
    refine r_imul hC dX0_shareOfWay_38 ?_
    refine r_iload_n hC dX0_shareOfWay_39 rfl rfl ?_
    refine r_iload_n hC dX0_shareOfWay_40 rfl rfl ?_
    refine r_imul hC dX0_shareOfWay_41 ?_
    refine r_isub hC dX0_shareOfWay_42 ?_
    refine r_iret hC hQ rfl dX0_shareOfWay_43 (Nat.le_of_ble_eq_true rfl) (Nat.le_of_ble_eq_true rfl) ?_
    exact ⟨by rw [shr_2 N hN j (by omega) hj]; rfl, rfl⟩
  · refine r_tabIn (tgt := 44) (off := 39) hC dX0_shareOfWay_5 (by decide) (by decide) (by decide) (by decide) ?_
    refine r_iconst (v := nI 2) hC dX0_shareOfWay_44 (by decide) ?_
    refine r_iload_n hC dX0_shareOfWay_45 rfl rfl ?_
    refine r_imul hC dX0_shareOfWay_46 ?_
    refine r_iload_n hC dX0_shareOfWay_47 rfl rfl ?_
    refine r_icgt (tgt := 59) hC dX0_shareOfWay_48 (by decide) (fun h48 => ?_) (fun h48 => ?_)
    · have h := (shr_3c N hN j (by omega)).mp h48
      refine r_iload_n hC dX0_shareOfWay_59 rfl rfl ?_
      refine r_iload_n hC dX0_shareOfWay_60 rfl rfl ?_
      refine r_imul hC dX0_shareOfWay_61 ?_
      refine r_iconst (v := nI 2) hC dX0_shareOfWay_62 (by decide) ?_
      refine r_iload_n hC dX0_shareOfWay_63 rfl rfl ?_
      refine r_imul hC dX0_shareOfWay_64 ?_
      refine r_iload_n hC dX0_shareOfWay_65 rfl rfl ?_
      refine r_imul hC dX0_shareOfWay_66 ?_
      refine r_isub hC dX0_shareOfWay_67 ?_
      refine r_iret hC hQ rfl dX0_shareOfWay_68 (Nat.le_of_ble_eq_true rfl) (Nat.le_of_ble_eq_true rfl) ?_
      refine ⟨?_, rfl⟩
      rw [shr_3b N hN j (by omega) hj h]
      simp only [shrN]
      rw [if_neg (show ¬ 2 * j ≤ N by omega)]
      rfl
    · have h : ¬ N < 2 * j := fun z => h48 ((shr_3c N hN j (by omega)).mpr z)
      refine r_iconst (v := nI 2) hC dX0_shareOfWay_51 (by decide) ?_
      refine r_iload_n hC dX0_shareOfWay_52 rfl rfl ?_
      refine r_imul hC dX0_shareOfWay_53 ?_
      refine r_iload_n hC dX0_shareOfWay_54 rfl rfl ?_
      refine r_imul hC dX0_shareOfWay_55 ?_
      refine r_goto (tgt := 68) hC dX0_shareOfWay_56 (by decide) ?_
      refine r_iret hC hQ rfl dX0_shareOfWay_68 (Nat.le_of_ble_eq_true rfl) (Nat.le_of_ble_eq_true rfl) ?_
      refine ⟨?_, rfl⟩
      rw [shr_3a j (by omega)]
      simp only [shrN]
      rw [if_pos (show 2 * j ≤ N by omega)]
      rfl
set_option maxRecDepth 100000 in
set_option maxHeartbeats 1000000 in
theorem c_addBetweens (hl : l.stackTraces = false) (hb : isBk S b p e c r) {n m k : Nat} (hn : pI S 5 b = nI n) (hm : m ≤ 5) (hk : k ≤ 3) (h43 : n + m ≤ 43) (x y : Int32) :
    MT l G S yX0_addBetweens cX0_addBetweens 8 none (rmA 1) [va_rf (some b), .int x, .int y, .int (nI m), .int (nI k)] (fun v S' => v = none ∧ ∃ g, S' = bkS S b r g (nI (n + m)) ∧ (∀ j, j < n → g j = pA S r j) ∧ ∀ j, j < m → g (n + j) = mid x y (j + 1) (m + 1) k) (fun _ => False) := by
  have kb := hb.1
  refine MT_of (by decide +kernel) hl rfl (Nat.le_of_ble_eq_true rfl) (fun Z hC hzl hnm hT hQ => ?_)
  change J G Z S 0 0 0 [some (va_rf (some b)), some (.int x), some (.int y), some (.int (nI m)), some (.int (nI k)), none, none, none] []
  have loop : ∀ (d i : Nat) (g : Nat → Int32), i + d = m → (∀ j, j < n → g j = pA S r j) → (∀ j, j < i → g (n + j) = mid x y (j + 1) (m + 1) k) →
      J G Z (bkS S b r g (nI (n + i))) 0 0 21 [some (va_rf (some b)), some (.int x), some (.int y), some (.int (nI m)), some (.int (nI k)), some (.int (nI (m + 1))), some (.int (nI ((m + 1) * (m + 1)))), some (.int (nI (i + 1)))] [] := by
    intro d
    induction d with
    | zero =>
      intro i g hi h1 h2
      have hi : i = m := by omega
      subst hi
      refine r_iload hC dX0_addBetweens_21 rfl ?_
      refine r_iload_n hC dX0_addBetweens_23 rfl rfl ?_
      refine r_icgt (tgt := 55) hC dX0_addBetweens_24 (by decide) (fun h24 => ?_) (fun h24 => ?_)
      · skip
        refine r_vret hC hQ rfl dX0_addBetweens_55 (Nat.le_of_ble_eq_true rfl) (Nat.le_of_ble_eq_true rfl) ?_
        exact ⟨rfl, g, rfl, h1, h2⟩
      · exact absurd (nI_lt (Nat.lt_succ_self i) (by omega)) h24
    | succ d ih =>
      intro i g hi h1 h2
      refine r_iload hC dX0_addBetweens_21 rfl ?_
      refine r_iload_n hC dX0_addBetweens_23 rfl rfl ?_
      refine r_icgt (tgt := 55) hC dX0_addBetweens_24 (by decide) (fun h24 => ?_) (fun h24 => ?_)
      · exact absurd ((nI_ltI (by omega) (by omega)).mp h24) (by omega)
      · skip
        refine r_aload_n hC dX0_addBetweens_27 rfl rfl ?_
        refine r_iload_n hC dX0_addBetweens_28 rfl rfl ?_
        refine r_iload_n hC dX0_addBetweens_29 rfl rfl ?_
        refine r_iload_n hC dX0_addBetweens_30 rfl rfl ?_
        refine r_isub hC dX0_addBetweens_31 ?_
        refine r_iload hC dX0_addBetweens_32 rfl ?_
        refine r_iload hC dX0_addBetweens_34 rfl ?_
        refine r_iload hC dX0_addBetweens_36 rfl ?_
        refine r_cS (as := [.int (nI (i + 1)), .int (nI (m + 1)), .int (nI k)]) hC (c_shareOfWay (j := i + 1) (N := m + 1) (k := k) (by rw [hzl]; exact hl) (by omega) (by omega) hk) cs_X0_shareOfWay q_472 q_473 dX0_addBetweens_38 rfl rfl ⟨Nat.le_of_ble_eq_true rfl, Nat.le_of_ble_eq_true rfl⟩ (Nat.le_of_ble_eq_true rfl) ⟨Nat.le_of_ble_eq_true rfl, Nat.le_of_ble_eq_true rfl⟩ (fun v38 S38 p38 => ?_) (fun _ x => x.elim)
        obtain ⟨rfl, rfl⟩ := p38
        refine r_imul hC dX0_addBetweens_41 ?_
        refine r_iload hC dX0_addBetweens_42 rfl ?_
        refine r_idiv hC dX0_addBetweens_44 (nI_ne0 (Nat.mul_pos (by omega) (by omega)) (Nat.lt_of_le_of_lt (Nat.mul_le_mul (show m + 1 ≤ 6 by omega) (show m + 1 ≤ 6 by omega)) (by decide))) ?_
        refine r_iadd hC dX0_addBetweens_45 ?_
        refine r_cV (as := [.int (x + (y - x) * nI (shrN (i + 1) (m + 1) k) / nI ((m + 1) * (m + 1)))]) hC (c_addFrame (n := n + i) (by rw [hzl]; exact hl) (show isBk (bkS S b r g (nI (n + i))) b p e c r from hb) (bk_I _ _ _ _ _) (by omega) _) cs_X0_addFrame q_464 q_466 q_9 (kb) (by decide) rfl dX0_addBetweens_46 rfl rfl ⟨Nat.le_of_ble_eq_true rfl, Nat.le_of_ble_eq_true rfl⟩ (Nat.le_of_ble_eq_true rfl) ⟨Nat.le_of_ble_eq_true rfl, Nat.le_of_ble_eq_true rfl⟩ (fun v46 S46 p46 => ?_) (fun _ x => x.elim)
        obtain ⟨rfl, hS⟩ := p46
        rw [bk_add] at hS
        subst hS
        refine r_iinc hC dX0_addBetweens_49 rfl (ii1 _) ?_
        refine r_goto (tgt := 21) hC dX0_addBetweens_52 (by decide) ?_
        refine ih (i + 1) _ (by omega) (fun j hj => ?_) (fun j hj => ?_)
        · rw [pk_un (by omega)]; exact h1 j hj
        · by_cases hji : j = i
          · subst hji; rw [upd_self]; rfl
          · rw [pk_un (by omega)]; exact h2 j (by omega)
  refine r_iload_n hC dX0_addBetweens_0 rfl rfl ?_
  refine r_iconst (v := nI 1) hC dX0_addBetweens_1 (by decide) ?_
  refine r_iadd hC dX0_addBetweens_2 ?_
  refine r_istore hC dX0_addBetweens_3 (by decide) ?_
  refine r_iload hC dX0_addBetweens_5 rfl ?_
  refine r_iload hC dX0_addBetweens_7 rfl ?_
  refine r_imul hC dX0_addBetweens_9 ?_
  refine r_istore hC dX0_addBetweens_10 (by decide) ?_
  refine r_iload hC dX0_addBetweens_12 rfl ?_
  refine r_ifgt (tgt := 18) hC dX0_addBetweens_14 (by decide) (fun h14 => ?_) (fun h14 => ?_)
  · skip
    refine r_iconst (v := nI 1) hC dX0_addBetweens_18 (by decide) ?_
    refine r_istore hC dX0_addBetweens_19 (by decide) ?_
    have h := loop m 0 (pA S r) (by omega) (fun j _ => rfl) (fun j hj => absurd hj (by omega))
    rw [Nat.add_zero, bk_self hn] at h
    have e1 : nI m + nI 1 = nI (m + 1) := nI_add m 1
    rw [e1, pk_mul]
    exact h
  · refine absurd ?_ h14
    rw [nI_add m 1, pk_mul]
    exact (nI_ltI (a := 0) (by omega) (Nat.lt_of_le_of_lt (Nat.mul_le_mul (show m + 1 ≤ 6 by omega) (show m + 1 ≤ 6 by omega)) (by decide))).mpr (Nat.mul_pos (by omega) (by omega))
end BookB

