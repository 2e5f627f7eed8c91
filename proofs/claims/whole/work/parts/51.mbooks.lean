/-! ===== what the model's memory stands for; its frames ===== -/
abbrev LX (o c f : Nat) : Nat := 43 * (3 * o + c) + f
def mNm (N : Nat → Int32) (A : AS) : Prop := N 0 = nI (aNb A) ∧ N 5 = nI (aNo A) ∧ N 14 = nI (aNs A) ∧ N 18 = nI (aTol A) ∧ N 19 = nI (aSp A)
def mBk (r1 r2 r3 r4 : Nat → Int32) (A : AS) : Prop := (∀ i, i < aNb A → r1 i = nI (aSz A i) ∧ ∀ k, k < aSz A i → r2 (8 * i + k) = aPs A i k ∧ r3 (8 * i + k) = aBt A i k ∧ r4 (8 * i + k) = aCv A i k) ∧ ∀ i, aNb A ≤ i → i < 4 → r1 i = nI 0
def mOr (r6 r7 r8 : Nat → Int32) (A : AS) : Prop := ∀ o, o < aNo A → r6 o = nI (aOb A o) ∧ r7 o = nI (aNc A o) ∧ ∀ c, c < 3 → r8 (3 * o + c) = if aBd A o c = 0 then -1 else nI (aBd A o c - 1)
def mLv (r9 r10 r11 : Nat → Int32) (A : AS) : Prop := ∀ o, o < aNo A → ∀ c, c < 3 → ∀ f, f < 43 → r9 (LX o c f) = (if aHl A o c f = 1 then aPos A o c f else -1) ∧ r11 (LX o c f) = (if aHl A o c f = 1 then trV (aTr A (aLs A o c f)) else -1) ∧ (aHl A o c f = 1 → r10 (LX o c f) = nI (aLs A o c f))
def mFo (r12 r13 : Nat → Int32) (A : AS) : Prop := (∀ k, k < 3 → r12 k = nI (aFd A k)) ∧ ∀ p, p < 8 → r13 p = nI (unf (aFd A) p)
def mSh (r15 r16 : Nat → Int32) (A : AS) : Prop := ∀ j, j < aNs A → r16 j = nI (aWt A j) ∧ ∀ x, x < 8 → r15 (8 * j + x) = trV (aLi A j x)
def mDu (r17 : Nat → Int32) (A : AS) : Prop := ∀ k, k < 2 → r17 k = nI (aDl A k)
def MC (N : Nat → Int32) (R : Nat → Nat → Int32) (A : AS) : Prop := mNm N A ∧ mBk (R 1) (R 2) (R 3) (R 4) A ∧ mOr (R 6) (R 7) (R 8) A ∧ mLv (R 9) (R 10) (R 11) A ∧ mFo (R 12) (R 13) A ∧ mSh (R 15) (R 16) A ∧ mDu (R 17) A
/-- the end of a call of the model -/
def EM (S : PS) (tg : TG) (md : Nat) (V : Nat → Nat) (r : OP) (v : Option Value) (S' : PS) : Prop :=
  (∃ x, v = some (.int x) ∧ (r.1 = 0 → x = r.2.1)) ∧ ∃ N' R', MX S S' tg md V N' R' ∧ MC N' R' r.2.2 ∧ N' 23 = nI r.1
def btN (A : AS) (i k : Nat) : Nat := (aBt A i k).toNatClampNeg
def offA (A : AS) (i k : Nat) : Nat := sm (fun k => btN A i k + 1) k
theorem seg_length {p e c : Nat → Int32} {n i : Nat} : (seg p e c n i).length = 1 + if i + 1 < n then (e i).toNatClampNeg else 0 := by
  unfold seg
  split
  · simp; omega
  · simp
theorem frs_length {p e c : Nat → Int32} {n : Nat} : ∀ j, (frs p e c n j).length = j + sm (fun k => if k + 1 < n then (e k).toNatClampNeg else 0) j := by
  intro j
  induction j with
  | zero => rfl
  | succ j ih =>
    simp only [frs, List.length_append, ih, seg_length, sm]
    omega
theorem sm_add1 {f : Nat → Nat} : ∀ n, sm (fun k => f k + 1) n = n + sm f n := by
  intro n
  induction n with
  | zero => rfl
  | succ n ih => simp only [sm, ih]; omega
theorem aLen_eq (A : AS) (i : Nat) : aLen A i = aSz A i + sm (btN A i) (aSz A i - 1) := by
  unfold aLen aRow
  rw [frs_length]
  rcases Nat.eq_zero_or_pos (aSz A i) with z | z
  · rw [z]; rfl
  · obtain ⟨n, hn⟩ : ∃ n, aSz A i = n + 1 := ⟨aSz A i - 1, by omega⟩
    rw [hn, Nat.add_sub_cancel]
    simp only [sm, if_neg (Nat.lt_irrefl (n + 1)), Nat.add_zero]
    rw [sm_cong n (fun k hk => if_pos (by omega))]
    rfl
theorem off_frs {A : AS} {i k : Nat} (hk : k < aSz A i) : (frs (aPs A i) (aBt A i) (aCv A i) (aSz A i) k).length = offA A i k := by
  unfold offA
  rw [frs_length, sm_add1]
  congr 1
  exact sm_cong k (fun m hm => if_pos (by omega))
theorem frs_get {p e c : Nat → Int32} {n : Nat} {m : Nat} : ∀ d j, m < (frs p e c n j).length → (frs p e c n (j + d)).getD m 0 = (frs p e c n j).getD m 0 := by
  intro d
  induction d with
  | zero => intro j _; rfl
  | succ d ih =>
    intro j h
    have h1 := ih j h
    have hlt : m < (frs p e c n (j + d)).length := by
      rw [frs_length] at h ⊢
      have : sm (fun k => if k + 1 < n then (e k).toNatClampNeg else 0) j ≤ sm (fun k => if k + 1 < n then (e k).toNatClampNeg else 0) (j + d) := by
        clear h1 ih h
        induction d with
        | zero => exact Nat.le_refl _
        | succ d ih => exact Nat.le_trans ih (Nat.le_add_right _ _)
      omega
    rw [← h1]
    show (frs p e c n (j + d) ++ seg p e c n (j + d)).getD m 0 = _
    rw [List.getD_eq_getElem?_getD, List.getElem?_append_left hlt, ← List.getD_eq_getElem?_getD]
theorem posA_seg {A : AS} {i k m : Nat} (hk : k < aSz A i) (hm : m < (seg (aPs A i) (aBt A i) (aCv A i) (aSz A i) k).length) (hlt : offA A i k + m < aLen A i) : posA A i (offA A i k + m) = (seg (aPs A i) (aBt A i) (aCv A i) (aSz A i) k).getD m 0 := by
  unfold posA
  rw [if_neg (by omega)]
  have h1 : offA A i k + m < (frs (aPs A i) (aBt A i) (aCv A i) (aSz A i) (k + 1)).length := by
    show _ < (frs (aPs A i) (aBt A i) (aCv A i) (aSz A i) k ++ seg (aPs A i) (aBt A i) (aCv A i) (aSz A i) k).length
    rw [List.length_append, off_frs hk]
    omega
  have h2 := frs_get (aSz A i - (k + 1)) (k + 1) h1
  rw [show k + 1 + (aSz A i - (k + 1)) = aSz A i by omega] at h2
  show (frs (aPs A i) (aBt A i) (aCv A i) (aSz A i) (aSz A i)).getD (offA A i k + m) 0 = _
  rw [h2]
  show (frs (aPs A i) (aBt A i) (aCv A i) (aSz A i) k ++ seg (aPs A i) (aBt A i) (aCv A i) (aSz A i) k).getD (offA A i k + m) 0 = _
  rw [List.getD_eq_getElem?_getD, List.getElem?_append_right (by rw [off_frs hk]; omega), off_frs hk, Nat.add_sub_cancel_left, ← List.getD_eq_getElem?_getD]
section MBooks
variable {l : Launch} {G : GG} {S S0 S' : PS} {tg tg' : TG} {md : Nat} {V : Nat → Nat} {N : Nat → Int32} {R : Nat → Nat → Int32} {A : AS}
theorem bt_n (hv : VU A) {i k : Nat} (hi : i < aNb A) (hk : k < aSz A i) : aBt A i k = nI (btN A i k) ∧ btN A i k ≤ 5 := by
  obtain ⟨-, ⟨m, hm, e⟩, -⟩ := (hv.2.2.2.2.1 i hi).2 k hk
  unfold btN
  rw [e, nI_clamp (by omega)]
  exact ⟨rfl, hm⟩
set_option maxRecDepth 100000 in
theorem m_framesOf (hl : l.stackTraces = false) (hM : MM S tg md V N R) (hv : VU A) (hB : mBk (R 1) (R 2) (R 3) (R 4) A) {i : Nat} (hi : i < aNb A) :
    MT l G S yX8_framesOf cX8_framesOf 4 (some .int) (rmA 0) [va_rf (some md), .int (nI i)] (fun v S' => v = some (.int (nI (aLen A i))) ∧ S' = S) (fun _ => False) := by
  have h4 := hv.1
  have h8 := (hv.2.2.2.2.1 i hi).1
  obtain ⟨b1, b2⟩ := hB.1 i hi
  refine MT_of (by decide +kernel) hl rfl (Nat.le_of_ble_eq_true rfl) (fun Z hC hzl hnm hT hQ => ?_)
  change J G Z S 0 0 0 [some (va_rf (some md)), some (.int (nI i)), none, none] []
  rw [aLen_eq] at hQ
  have loop : ∀ (d k : Nat), k + d = aSz A i - 1 → J G Z S 0 0 9 [some (va_rf (some md)), some (.int (nI i)), some (.int (nI (aSz A i + sm (btN A i) k))), some (.int (nI k))] [] := by
    intro d
    induction d with
    | zero =>
      intro k hk
      have hk : k = aSz A i - 1 := by omega
      subst hk
      refine r_iload_n hC dX8_framesOf_9 rfl rfl ?_
      refine r_aload_n hC dX8_framesOf_10 rfl rfl ?_
      refine r_getR  hC fl_X8_7 dX8_framesOf_11 (hM.kd) (hM.r 1 rfl) ?_
      refine r_iload_n hC dX8_framesOf_14 rfl rfl ?_
      refine r_iald hC dX8_framesOf_15 (hM.k 1 rfl) (rfl) (hM.lt 1 rfl (by show _ < 4; omega)) (hM.b 1 rfl) ((congrFun (hM.a 1 rfl) _).trans (b1)) ?_
      refine r_iconst (v := nI 1) hC dX8_framesOf_16 (by decide) ?_
      refine r_isub hC dX8_framesOf_17 ?_
      refine r_icge (tgt := 41) hC dX8_framesOf_18 (by decide) (fun h18 => ?_) (fun h18 => ?_)
      · refine r_iload_n hC dX8_framesOf_41 rfl rfl ?_
        refine r_iret hC hQ rfl dX8_framesOf_42 (Nat.le_of_ble_eq_true rfl) (Nat.le_of_ble_eq_true rfl) ?_
        exact ⟨rfl, rfl⟩
      · refine absurd ?_ h18
        rcases Nat.eq_zero_or_pos (aSz A i) with z | z
        · rw [z]; decide
        · rw [pk_sub (show 1 ≤ aSz A i by omega)]
          exact Int32.le_refl _
    | succ d ih =>
      intro k hk
      have hk8 : k < aSz A i := by omega
      obtain ⟨c1, c2, c3⟩ := b2 k hk8
      have hbt := bt_n hv hi hk8
      refine r_iload_n hC dX8_framesOf_9 rfl rfl ?_
      refine r_aload_n hC dX8_framesOf_10 rfl rfl ?_
      refine r_getR  hC fl_X8_7 dX8_framesOf_11 (hM.kd) (hM.r 1 rfl) ?_
      refine r_iload_n hC dX8_framesOf_14 rfl rfl ?_
      refine r_iald hC dX8_framesOf_15 (hM.k 1 rfl) (rfl) (hM.lt 1 rfl (by show _ < 4; omega)) (hM.b 1 rfl) ((congrFun (hM.a 1 rfl) _).trans (b1)) ?_
      refine r_iconst (v := nI 1) hC dX8_framesOf_16 (by decide) ?_
      refine r_isub hC dX8_framesOf_17 ?_
      refine r_icge (tgt := 41) hC dX8_framesOf_18 (by decide) (fun h18 => ?_) (fun h18 => ?_)
      · rw [pk_sub (show 1 ≤ aSz A i by omega)] at h18
        exact absurd ((nI_leI (by omega) (by omega)).mp h18) (by omega)
      · skip
        refine r_iload_n hC dX8_framesOf_21 rfl rfl ?_
        refine r_aload_n hC dX8_framesOf_22 rfl rfl ?_
        refine r_getR  hC fl_X8_16 dX8_framesOf_23 (hM.kd) (hM.r 3 rfl) ?_
        refine r_bipush (v := nI 8) hC dX8_framesOf_26 (by decide) ?_
        refine r_iload_n hC dX8_framesOf_28 rfl rfl ?_
        refine r_imul hC dX8_framesOf_29 ?_
        refine r_iload_n hC dX8_framesOf_30 rfl rfl ?_
        refine r_iadd hC dX8_framesOf_31 ?_
        refine r_iald hC dX8_framesOf_32 (hM.k 3 rfl) (by rw [pk_mul, nI_add]) (hM.lt 3 rfl (by show _ < 32; omega)) (hM.b 3 rfl) ((congrFun (hM.a 3 rfl) _).trans (c2.trans hbt.1)) ?_
        refine r_iadd hC dX8_framesOf_33 ?_
        rw [nI_add]
        refine r_istore_n hC dX8_framesOf_34 rfl (by decide) ?_
        refine r_iinc hC dX8_framesOf_35 rfl (ii1 _) ?_
        refine r_goto (tgt := 9) hC dX8_framesOf_38 (by decide) ?_
        have := ih (k + 1) (by omega)
        rw [show aSz A i + sm (btN A i) (k + 1) = aSz A i + sm (btN A i) k + btN A i k from by simp only [sm]; omega] at this
        exact this
  refine r_aload_n hC dX8_framesOf_0 rfl rfl ?_
  refine r_getR  hC fl_X8_7 dX8_framesOf_1 (hM.kd) (hM.r 1 rfl) ?_
  refine r_iload_n hC dX8_framesOf_4 rfl rfl ?_
  refine r_iald hC dX8_framesOf_5 (hM.k 1 rfl) (rfl) (hM.lt 1 rfl (by show _ < 4; omega)) (hM.b 1 rfl) ((congrFun (hM.a 1 rfl) _).trans (b1)) ?_
  refine r_istore_n hC dX8_framesOf_6 rfl (by decide) ?_
  refine r_iconst (v := nI 0) hC dX8_framesOf_7 (by decide) ?_
  refine r_istore_n hC dX8_framesOf_8 rfl (by decide) ?_
  exact loop (aSz A i - 1) 0 (by omega)
theorem way_0 {a b j n : Nat} (ha : a ≤ 999) (hb : b ≤ 999) (hn : 1 ≤ n) (hn7 : n < 7) (hj : j ≤ n) : (nI b - nI a) * nI j / nI n = (nI b - nI a) * nI (shrN j n 0) / nI (n * n) := by
  have e0 : shrN j n 0 = j * n := by unfold shrN; rw [if_neg (by decide), if_neg (by decide), if_neg (by decide)]
  have hw : n * n ≤ 36 := Nat.mul_le_mul (by omega : n ≤ 6) (by omega : n ≤ 6)
  have hw0 : 0 < n * n := Nat.mul_pos hn hn
  have hjn : j * n ≤ 36 := Nat.mul_le_mul (by omega : j ≤ 6) (by omega : n ≤ 6)
  rw [e0]
  by_cases hab : a ≤ b
  · have hp : (b - a) * j ≤ 999 * 6 := Nat.mul_le_mul (by omega) (by omega)
    have hp2 : (b - a) * (j * n) ≤ 999 * 36 := Nat.mul_le_mul (by omega) (by omega)
    rw [pk_sub hab, pk_mul, pk_mul, pk_div (by omega) (by omega) (by omega), pk_div (by omega) hw0 (by omega), ← Nat.mul_assoc, Nat.mul_div_mul_right _ _ (by omega)]
  · have hp : (a - b) * j ≤ 999 * 6 := Nat.mul_le_mul (by omega) (by omega)
    have hp2 : (a - b) * (j * n) ≤ 999 * 36 := Nat.mul_le_mul (by omega) (by omega)
    have e : nI b - nI a = -nI (a - b) := by rw [← pk_sub (show b ≤ a by omega), Int32.neg_sub]
    rw [e, Int32.neg_mul, Int32.neg_mul, pk_mul, pk_mul, neg_div (by omega) (by omega) (by omega), neg_div (by omega) hw0 (by omega), ← Nat.mul_assoc, Nat.mul_div_mul_right _ _ (by omega)]
set_option maxRecDepth 100000 in
set_option maxHeartbeats 1000000 in
theorem m_part (hl : l.stackTraces = false) {a b j n k : Nat} (ha : a ≤ 999) (hb : b ≤ 999) (hn : 1 ≤ n) (hn7 : n < 7) (hj : j ≤ n) (hk : k < 4) :
    MT l G S yX8_part cX8_part 5 (some .int) (rmA 0) [.int (nI b - nI a), .int (nI j), .int (nI n), .int (nI k)] (fun v S' => v = some (.int ((nI b - nI a) * nI (shrN j n k) / nI (n * n))) ∧ S' = S) (fun _ => False) := by
  have hw : n * n ≤ 36 := Nat.mul_le_mul (by omega : n ≤ 6) (by omega : n ≤ 6)
  have hw0 : 0 < n * n := Nat.mul_pos hn hn
  have hnz : ¬ nI n = 0 := nI_ne0 (by omega) (by omega)
  have hwz : ¬ nI n * nI n = 0 := by rw [pk_mul]; exact nI_ne0 hw0 (by omega)
  refine MT_of (by decide +kernel) hl rfl (Nat.le_of_ble_eq_true rfl) (fun Z hC hzl hnm hT hQ => ?_)
  change J G Z S 0 0 0 [some (.int (nI b - nI a)), some (.int (nI j)), some (.int (nI n)), some (.int (nI k)), none] []
  refine r_iload_n hC dX8_part_0 rfl rfl ?_
  refine r_iload_n hC dX8_part_1 rfl rfl ?_
  refine r_isub hC dX8_part_2 ?_
  refine r_istore hC dX8_part_3 (by decide) ?_
  refine r_iload_n hC dX8_part_5 rfl rfl ?_
  refine r_ifne (tgt := 15) hC dX8_part_6 (by decide) (fun h6 => ?_) (fun h6 => ?_)
  · have k0 : k ≠ 0 := fun z => h6 (by rw [z]; rfl)
    refine r_iload_n hC dX8_part_15 rfl rfl ?_
    refine r_iconst (v := nI 1) hC dX8_part_16 (by decide) ?_
    refine r_icne (tgt := 30) hC dX8_part_17 (by decide) (fun h17 => ?_) (fun h17 => ?_)
    · have k1 : k ≠ 1 := fun z => h17 (by rw [z])
      refine r_iload_n hC dX8_part_30 rfl rfl ?_
      refine r_iconst (v := nI 2) hC dX8_part_31 (by decide) ?_
      refine r_icne (tgt := 51) hC dX8_part_32 (by decide) (fun h32 => ?_) (fun h32 => ?_)
      · have k2 : k ≠ 2 := fun z => h32 (by rw [z])
        have k3 : k = 3 := by omega
        subst k3
        refine r_iload_n hC dX8_part_51 rfl rfl ?_
        refine r_iconst (v := nI 2) hC dX8_part_52 (by decide) ?_
        refine r_iload_n hC dX8_part_53 rfl rfl ?_
        refine r_imul hC dX8_part_54 ?_
        refine r_iload_n hC dX8_part_55 rfl rfl ?_
        refine r_icgt (tgt := 67) hC dX8_part_56 (by decide) (fun h56 => ?_) (fun h56 => ?_)
        · have h2 : n < 2 * j := by
            have h56' : nI n < nI 2 * nI j := h56
            rw [pk_mul] at h56'
            exact (nI_ltI (by omega) (by omega)).mp h56'
          refine r_iload_n hC dX8_part_67 rfl rfl ?_
          refine r_iload_n hC dX8_part_68 rfl rfl ?_
          refine r_imul hC dX8_part_69 ?_
          refine r_iconst (v := nI 2) hC dX8_part_70 (by decide) ?_
          refine r_iload hC dX8_part_71 rfl ?_
          refine r_imul hC dX8_part_73 ?_
          refine r_iload hC dX8_part_74 rfl ?_
          refine r_imul hC dX8_part_76 ?_
          refine r_isub hC dX8_part_77 ?_
          refine r_imul hC dX8_part_78 ?_
          refine r_iload_n hC dX8_part_79 rfl rfl ?_
          refine r_iload_n hC dX8_part_80 rfl rfl ?_
          refine r_imul hC dX8_part_81 ?_
          refine r_idiv hC dX8_part_82 (hwz) ?_
          refine r_iret hC hQ rfl dX8_part_83 (Nat.le_of_ble_eq_true rfl) (Nat.le_of_ble_eq_true rfl) ?_
          refine ⟨?_, rfl⟩
          rw [shr_3b n hn7 j (by omega) hj h2, pk_mul]
          unfold shrN
          rw [if_neg (by decide), if_neg (by decide), if_pos rfl, if_neg (by omega)]
        · have h2 : 2 * j ≤ n := Nat.le_of_not_lt (fun z => h56 (by
            show nI n < nI 2 * nI j
            rw [pk_mul]
            exact nI_lt z (by omega)))
          refine r_iconst (v := nI 2) hC dX8_part_59 (by decide) ?_
          refine r_iload_n hC dX8_part_60 rfl rfl ?_
          refine r_imul hC dX8_part_61 ?_
          refine r_iload_n hC dX8_part_62 rfl rfl ?_
          refine r_imul hC dX8_part_63 ?_
          refine r_goto (tgt := 78) hC dX8_part_64 (by decide) ?_
          refine r_imul hC dX8_part_78 ?_
          refine r_iload_n hC dX8_part_79 rfl rfl ?_
          refine r_iload_n hC dX8_part_80 rfl rfl ?_
          refine r_imul hC dX8_part_81 ?_
          refine r_idiv hC dX8_part_82 (hwz) ?_
          refine r_iret hC hQ rfl dX8_part_83 (Nat.le_of_ble_eq_true rfl) (Nat.le_of_ble_eq_true rfl) ?_
          refine ⟨?_, rfl⟩
          rw [shr_3a j (by omega), pk_mul]
          unfold shrN
          rw [if_neg (by decide), if_neg (by decide), if_pos rfl, if_pos h2]
      · have k2 : k = 2 := (nI_eq (by omega) (by decide)).mp h32
        subst k2
        refine r_iload_n hC dX8_part_35 rfl rfl ?_
        refine r_iload_n hC dX8_part_36 rfl rfl ?_
        refine r_iload_n hC dX8_part_37 rfl rfl ?_
        refine r_imul hC dX8_part_38 ?_
        refine r_iload hC dX8_part_39 rfl ?_
        refine r_iload hC dX8_part_41 rfl ?_
        refine r_imul hC dX8_part_43 ?_
        refine r_isub hC dX8_part_44 ?_
        refine r_imul hC dX8_part_45 ?_
        refine r_iload_n hC dX8_part_46 rfl rfl ?_
        refine r_iload_n hC dX8_part_47 rfl rfl ?_
        refine r_imul hC dX8_part_48 ?_
        refine r_idiv hC dX8_part_49 (hwz) ?_
        refine r_iret hC hQ rfl dX8_part_50 (Nat.le_of_ble_eq_true rfl) (Nat.le_of_ble_eq_true rfl) ?_
        refine ⟨?_, rfl⟩
        rw [shr_2 n hn7 j (by omega) hj, pk_mul]
        unfold shrN
        rw [if_neg (by decide), if_pos rfl]
    · have k1 : k = 1 := (nI_eq (by omega) (by decide)).mp h17
      subst k1
      refine r_iload_n hC dX8_part_20 rfl rfl ?_
      refine r_iload_n hC dX8_part_21 rfl rfl ?_
      refine r_iload_n hC dX8_part_22 rfl rfl ?_
      refine r_imul hC dX8_part_23 ?_
      refine r_imul hC dX8_part_24 ?_
      refine r_iload_n hC dX8_part_25 rfl rfl ?_
      refine r_iload_n hC dX8_part_26 rfl rfl ?_
      refine r_imul hC dX8_part_27 ?_
      refine r_idiv hC dX8_part_28 (hwz) ?_
      refine r_iret hC hQ rfl dX8_part_29 (Nat.le_of_ble_eq_true rfl) (Nat.le_of_ble_eq_true rfl) ?_
      refine ⟨?_, rfl⟩
      rw [shr_1 j (by omega), pk_mul]
      unfold shrN
      rw [if_pos rfl]
  · have k0 : k = 0 := (nI_eq (by omega) (by decide)).mp h6
    subst k0
    refine r_iload_n hC dX8_part_9 rfl rfl ?_
    refine r_iload_n hC dX8_part_10 rfl rfl ?_
    refine r_imul hC dX8_part_11 ?_
    refine r_iload_n hC dX8_part_12 rfl rfl ?_
    refine r_idiv hC dX8_part_13 (hnz) ?_
    refine r_iret hC hQ rfl dX8_part_14 (Nat.le_of_ble_eq_true rfl) (Nat.le_of_ble_eq_true rfl) ?_
    rw [way_0 ha hb hn hn7 hj]
    exact ⟨rfl, rfl⟩
set_option maxRecDepth 100000 in
set_option maxHeartbeats 1000000 in
theorem m_positionOf (hl : l.stackTraces = false) (hM : MM S tg md V N R) (hv : VU A) (hB : mBk (R 1) (R 2) (R 3) (R 4) A) {i f : Nat} (hi : i < aNb A) (hf : f < aLen A i) :
    MT l G S yX8_positionOf cX8_positionOf 5 (some .int) (rmA 1) [va_rf (some md), .int (nI i), .int (nI f)] (fun v S' => v = some (.int (posA A i f)) ∧ S' = S) (fun _ => False) := by
  have h4 := hv.1
  obtain ⟨h8, hV⟩ := hv.2.2.2.2.1 i hi
  obtain ⟨b1, b2⟩ := hB.1 i hi
  have h43 := hv.len hi
  have hln := aLen_eq A i
  refine MT_of (by decide +kernel) hl rfl (Nat.le_of_ble_eq_true rfl) (fun Z hC hzl hnm hT hQ => ?_)
  change J G Z S 0 0 0 [some (va_rf (some md)), some (.int (nI i)), some (.int (nI f)), none, none] []
  have hzs : (zl Z).stackTraces = false := by rw [hzl]; exact hl
  have hsz : 1 ≤ aSz A i := by
    rcases Nat.eq_zero_or_pos (aSz A i) with z | z
    · rw [z] at hln; simp only [sm, Nat.zero_sub] at hln; omega
    · exact z
  have hend : aLen A i = offA A i (aSz A i - 1) + 1 := by
    rw [hln]
    unfold offA
    rw [sm_add1]
    omega
  -- at the drawing k, left frames on
  have fin : ∀ k left, k < aSz A i → f = offA A i k + left → (left ≤ btN A i k ∧ k + 1 < aSz A i ∨ left = 0) → J G Z S 0 0 55 [some (va_rf (some md)), some (.int (nI i)), some (.int (nI f)), some (.int (nI (8 * i + k))), some (.int (nI left))] [] := by
    intro k left hk hfl hc
    obtain ⟨c1, c2, c3⟩ := b2 k hk
    have hbt := bt_n hv hi hk
    by_cases h0 : left = 0
    · subst h0
      have hp := posA_seg hk (m := 0) (by unfold seg; simp) (by omega)
      rw [← hfl] at hp
      have hp' : posA A i f = aPs A i k := hp
      refine r_iload hC dX8_positionOf_55 rfl ?_
      refine r_ifne (tgt := 69) hC dX8_positionOf_57 (by decide) (fun h57 => ?_) (fun h57 => ?_)
      · exact absurd rfl h57
      · refine r_aload_n hC dX8_positionOf_60 rfl rfl ?_
        refine r_getR  hC fl_X8_13 dX8_positionOf_61 (hM.kd) (hM.r 2 rfl) ?_
        refine r_iload_n hC dX8_positionOf_64 rfl rfl ?_
        refine r_iald hC dX8_positionOf_65 (hM.k 2 rfl) (rfl) (hM.lt 2 rfl (by show _ < 32; omega)) (hM.b 2 rfl) ((congrFun (hM.a 2 rfl) _).trans (c1)) ?_
        refine r_goto (tgt := 110) hC dX8_positionOf_66 (by decide) ?_
        refine r_iret hC hQ rfl dX8_positionOf_110 (Nat.le_of_ble_eq_true rfl) (Nat.le_of_ble_eq_true rfl) ?_
        rw [hp']
        exact ⟨rfl, rfl⟩
    · obtain ⟨hle, hk1⟩ : left ≤ btN A i k ∧ k + 1 < aSz A i := hc.resolve_right h0
      obtain ⟨d1, d2, d3⟩ := b2 (k + 1) hk1
      obtain ⟨⟨pa, hpa, ea⟩, -, ⟨cv, hcv, ec⟩⟩ := hV k hk
      obtain ⟨⟨pb, hpb, eb⟩, -, -⟩ := hV (k + 1) hk1
      have hp := posA_seg hk (m := left) (by rw [seg_length, if_pos hk1]; unfold btN at hle; omega) (by omega)
      rw [← hfl] at hp
      have hp' : posA A i f = mid (nI pa) (nI pb) left (btN A i k + 1) cv := by
        rw [hp]
        unfold seg
        rw [if_pos hk1, ea, eb, ec, nI_clamp (show cv < 2 ^ 31 by omega)]
        obtain ⟨m, rfl⟩ : ∃ m, left = m + 1 := ⟨left - 1, by omega⟩
        rw [List.getD_eq_getElem?_getD, List.getElem?_cons_succ, List.getElem?_map, List.getElem?_range (by unfold btN at hle; omega)]
        rfl
      refine r_iload hC dX8_positionOf_55 rfl ?_
      refine r_ifne (tgt := 69) hC dX8_positionOf_57 (by decide) (fun h57 => ?_) (fun h57 => ?_)
      · refine r_aload_n hC dX8_positionOf_69 rfl rfl ?_
        refine r_getR  hC fl_X8_13 dX8_positionOf_70 (hM.kd) (hM.r 2 rfl) ?_
        refine r_iload_n hC dX8_positionOf_73 rfl rfl ?_
        refine r_iald hC dX8_positionOf_74 (hM.k 2 rfl) (rfl) (hM.lt 2 rfl (by show _ < 32; omega)) (hM.b 2 rfl) ((congrFun (hM.a 2 rfl) _).trans (c1.trans ea)) ?_
        refine r_aload_n hC dX8_positionOf_75 rfl rfl ?_
        refine r_getR  hC fl_X8_13 dX8_positionOf_76 (hM.kd) (hM.r 2 rfl) ?_
        refine r_iload_n hC dX8_positionOf_79 rfl rfl ?_
        refine r_iconst (v := nI 1) hC dX8_positionOf_80 (by decide) ?_
        refine r_iadd hC dX8_positionOf_81 ?_
        refine r_iald hC dX8_positionOf_82 (hM.k 2 rfl) (nI_1 _) (hM.lt 2 rfl (by show _ < 32; omega)) (hM.b 2 rfl) ((congrFun (hM.a 2 rfl) _).trans (d1.trans eb)) ?_
        refine r_aload_n hC dX8_positionOf_83 rfl rfl ?_
        refine r_getR  hC fl_X8_13 dX8_positionOf_84 (hM.kd) (hM.r 2 rfl) ?_
        refine r_iload_n hC dX8_positionOf_87 rfl rfl ?_
        refine r_iald hC dX8_positionOf_88 (hM.k 2 rfl) (rfl) (hM.lt 2 rfl (by show _ < 32; omega)) (hM.b 2 rfl) ((congrFun (hM.a 2 rfl) _).trans (c1.trans ea)) ?_
        refine r_isub hC dX8_positionOf_89 ?_
        refine r_iload hC dX8_positionOf_90 rfl ?_
        refine r_aload_n hC dX8_positionOf_92 rfl rfl ?_
        refine r_getR  hC fl_X8_16 dX8_positionOf_93 (hM.kd) (hM.r 3 rfl) ?_
        refine r_iload_n hC dX8_positionOf_96 rfl rfl ?_
        refine r_iald hC dX8_positionOf_97 (hM.k 3 rfl) (rfl) (hM.lt 3 rfl (by show _ < 32; omega)) (hM.b 3 rfl) ((congrFun (hM.a 3 rfl) _).trans (c2.trans hbt.1)) ?_
        refine r_iconst (v := nI 1) hC dX8_positionOf_98 (by decide) ?_
        refine r_iadd hC dX8_positionOf_99 ?_
        rw [nI_add]
        refine r_aload_n hC dX8_positionOf_100 rfl rfl ?_
        refine r_getR  hC fl_X8_19 dX8_positionOf_101 (hM.kd) (hM.r 4 rfl) ?_
        refine r_iload_n hC dX8_positionOf_104 rfl rfl ?_
        refine r_iald hC dX8_positionOf_105 (hM.k 4 rfl) (rfl) (hM.lt 4 rfl (by show _ < 32; omega)) (hM.b 4 rfl) ((congrFun (hM.a 4 rfl) _).trans (c3.trans ec)) ?_
        refine r_cS (as := [.int (nI pb - nI pa), .int (nI left), .int (nI (btN A i k + 1)), .int (nI cv)]) hC (m_part hzs hpa hpb (j := left) (n := btN A i k + 1) (k := cv) (by omega) (by omega) (by omega) (by omega)) cs_X8_part q_1041 q_1042 dX8_positionOf_106 rfl rfl ⟨Nat.le_of_ble_eq_true rfl, Nat.le_of_ble_eq_true rfl⟩ (Nat.le_of_ble_eq_true rfl) ⟨Nat.le_of_ble_eq_true rfl, Nat.le_of_ble_eq_true rfl⟩ (fun v106 S106 p106 => ?_) (fun _ x => x.elim)
        obtain ⟨rfl, e106⟩ := p106
        rw [e106]
        refine r_iadd hC dX8_positionOf_109 ?_
        refine r_iret hC hQ rfl dX8_positionOf_110 (Nat.le_of_ble_eq_true rfl) (Nat.le_of_ble_eq_true rfl) ?_
        rw [hp']
        exact ⟨rfl, rfl⟩
      · exact absurd h57 (nI_ne0 (by omega) (by omega))
  have loop : ∀ (d k left : Nat), k + d + 1 = aSz A i → f = offA A i k + left → J G Z S 0 0 8 [some (va_rf (some md)), some (.int (nI i)), some (.int (nI f)), some (.int (nI (8 * i + k))), some (.int (nI left))] [] := by
    intro d
    induction d with
    | zero =>
      intro k left hk hfl
      have hk' : k < aSz A i := by omega
      obtain ⟨c1, c2, c3⟩ := b2 k hk'
      have hbt := bt_n hv hi hk'
      have hl0 : left = 0 := by
        rw [show aSz A i - 1 = k by omega] at hend
        omega
      subst hl0
      refine r_iload hC dX8_positionOf_8 rfl ?_
      refine r_aload_n hC dX8_positionOf_10 rfl rfl ?_
      refine r_getR  hC fl_X8_16 dX8_positionOf_11 (hM.kd) (hM.r 3 rfl) ?_
      refine r_iload_n hC dX8_positionOf_14 rfl rfl ?_
      refine r_iald hC dX8_positionOf_15 (hM.k 3 rfl) (rfl) (hM.lt 3 rfl (by show _ < 32; omega)) (hM.b 3 rfl) ((congrFun (hM.a 3 rfl) _).trans (c2.trans hbt.1)) ?_
      refine r_icle (tgt := 55) hC dX8_positionOf_16 (by decide) (fun h16 => ?_) (fun h16 => ?_)
      · exact fin k 0 hk' hfl (Or.inr rfl)
      · exact absurd (nI_le (Nat.zero_le _) (by omega)) h16
    | succ d ih =>
      intro k left hk hfl
      have hk' : k < aSz A i := by omega
      obtain ⟨c1, c2, c3⟩ := b2 k hk'
      have hbt := bt_n hv hi hk'
      refine r_iload hC dX8_positionOf_8 rfl ?_
      refine r_aload_n hC dX8_positionOf_10 rfl rfl ?_
      refine r_getR  hC fl_X8_16 dX8_positionOf_11 (hM.kd) (hM.r 3 rfl) ?_
      refine r_iload_n hC dX8_positionOf_14 rfl rfl ?_
      refine r_iald hC dX8_positionOf_15 (hM.k 3 rfl) (rfl) (hM.lt 3 rfl (by show _ < 32; omega)) (hM.b 3 rfl) ((congrFun (hM.a 3 rfl) _).trans (c2.trans hbt.1)) ?_
      refine r_icle (tgt := 55) hC dX8_positionOf_16 (by decide) (fun h16 => ?_) (fun h16 => ?_)
      · exact fin k left hk' hfl (Or.inl ⟨(nI_leI (by omega) (by omega)).mp h16, by omega⟩)
      · have hgt : btN A i k < left := Nat.lt_of_not_le (fun z => h16 (nI_le z (by omega)))
        refine r_iload_n hC dX8_positionOf_19 rfl rfl ?_
        refine r_bipush (v := nI 8) hC dX8_positionOf_20 (by decide) ?_
        refine r_iload_n hC dX8_positionOf_22 rfl rfl ?_
        refine r_imul hC dX8_positionOf_23 ?_
        rw [pk_mul]
        refine r_aload_n hC dX8_positionOf_24 rfl rfl ?_
        refine r_getR  hC fl_X8_7 dX8_positionOf_25 (hM.kd) (hM.r 1 rfl) ?_
        refine r_iload_n hC dX8_positionOf_28 rfl rfl ?_
        refine r_iald hC dX8_positionOf_29 (hM.k 1 rfl) (rfl) (hM.lt 1 rfl (by show _ < 4; omega)) (hM.b 1 rfl) ((congrFun (hM.a 1 rfl) _).trans (b1)) ?_
        refine r_iadd hC dX8_positionOf_30 ?_
        rw [nI_add]
        refine r_iconst (v := nI 1) hC dX8_positionOf_31 (by decide) ?_
        refine r_isub hC dX8_positionOf_32 ?_
        rw [show (nI (8 * i + aSz A i) - nI 1 : Int32) = nI (8 * i + aSz A i - 1) from pk_sub (by omega)]
        refine r_icge (tgt := 55) hC dX8_positionOf_33 (by decide) (fun h33 => ?_) (fun h33 => ?_)
        · exact absurd ((nI_leI (by omega) (by omega)).mp h33) (by omega)
        · refine r_iload hC dX8_positionOf_36 rfl ?_
          refine r_aload_n hC dX8_positionOf_38 rfl rfl ?_
          refine r_getR  hC fl_X8_16 dX8_positionOf_39 (hM.kd) (hM.r 3 rfl) ?_
          refine r_iload_n hC dX8_positionOf_42 rfl rfl ?_
          refine r_iald hC dX8_positionOf_43 (hM.k 3 rfl) (rfl) (hM.lt 3 rfl (by show _ < 32; omega)) (hM.b 3 rfl) ((congrFun (hM.a 3 rfl) _).trans (c2.trans hbt.1)) ?_
          refine r_iconst (v := nI 1) hC dX8_positionOf_44 (by decide) ?_
          refine r_iadd hC dX8_positionOf_45 ?_
          rw [nI_add]
          refine r_isub hC dX8_positionOf_46 ?_
          rw [show (nI left - nI (btN A i k + 1) : Int32) = nI (left - (btN A i k + 1)) from pk_sub (by omega)]
          refine r_istore hC dX8_positionOf_47 (by decide) ?_
          refine r_iinc hC dX8_positionOf_49 rfl (ii1 _) ?_
          refine r_goto (tgt := 8) hC dX8_positionOf_52 (by decide) ?_
          refine ih (k + 1) (left - (btN A i k + 1)) (by omega) ?_
          show f = offA A i k + (btN A i k + 1) + (left - (btN A i k + 1))
          omega
  refine r_bipush (v := nI 8) hC dX8_positionOf_0 (by decide) ?_
  refine r_iload_n hC dX8_positionOf_2 rfl rfl ?_
  refine r_imul hC dX8_positionOf_3 ?_
  rw [pk_mul]
  refine r_istore_n hC dX8_positionOf_4 rfl (by decide) ?_
  refine r_iload_n hC dX8_positionOf_5 rfl rfl ?_
  refine r_istore hC dX8_positionOf_6 (by decide) ?_
  refine loop (aSz A i - 1) 0 f (by omega) ?_
  show f = 0 + f
  omega
end MBooks

