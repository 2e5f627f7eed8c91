/-! ===== the model unfolds ===== -/
theorem ustep_h (fd : Nat) (u : US) : (ustep fd u).2.2.2.2.2 = u.2.2.2.2.2 / 2 := by
  unfold ustep
  simp only
  split <;> rfl
theorem uall_h (f : Nat → Nat) (p : Nat) : ∀ k, (uall f p k).2.2.2.2.2 = 4 / 2 ^ k := by
  intro k
  induction k with
  | zero => rfl
  | succ k ih =>
    show (ustep _ _).2.2.2.2.2 = _
    rw [ustep_h, ih, Nat.div_div_eq_div_mul, Nat.pow_succ]
def clU (f : Nat → Nat) (r : Nat → Int32) (n : Nat) : Nat → Int32 := fun p => if p < n then nI (unf f p) else r p
theorem clU_0 (f : Nat → Nat) (r : Nat → Int32) : clU f r 0 = r := by
  funext p
  exact if_neg (Nat.not_lt_zero p)
theorem clU_s (f : Nat → Nat) (r : Nat → Int32) (n : Nat) : upd (clU f r n) n (nI (unf f n)) = clU f r (n + 1) := by
  funext p
  by_cases h : p = n
  · rw [h, pk_us]
    exact (if_pos (Nat.lt_succ_self n)).symm
  · rw [pk_un h]
    unfold clU
    by_cases hz : p < n
    · rw [if_pos hz, if_pos (by omega)]
    · rw [if_neg hz, if_neg (by omega)]
theorem uR_uR (R : Nat → Nat → Int32) (k : Nat) (a b : Nat → Int32) : uR (uR R k a) k b = uR R k b := by
  funext m
  unfold uR
  by_cases h : m = k
  · rw [if_pos h, if_pos h]
  · rw [if_neg h, if_neg h, if_neg h]
theorem uR_id {R : Nat → Nat → Int32} {k : Nat} {v : Nat → Int32} (h : R k = v) : uR R k v = R := by
  funext m
  unfold uR
  by_cases hm : m = k
  · rw [if_pos hm, hm, h]
  · rw [if_neg hm]
/-- the end of a call of the model without an answer -/
def EMv (S : PS) (tg : TG) (md : Nat) (V : Nat → Nat) (r : OP) (v : Option Value) (S' : PS) : Prop :=
  v = none ∧ ∃ N' R', MX S S' tg md V N' R' ∧ MC N' R' r.2.2 ∧ N' 23 = nI r.1
section MFold
variable {l : Launch} {G : GG} {S S0 S' : PS} {tg tg' : TG} {md : Nat} {V : Nat → Nat} {N : Nat → Int32} {R : Nat → Nat → Int32} {A : AS}
set_option maxRecDepth 100000 in
set_option maxHeartbeats 2000000 in
theorem m_unfolded (hl : l.stackTraces = false) (hM : MM S tg md V N R) {f : Nat → Nat} (hok : okf f) (hF : ∀ k, k < 3 → R 12 k = nI (f k)) {p : Nat} (hp : p < 8) :
    MT l G S yX8_unfolded cX8_unfolded 12 (some .int) (rmA 0) [va_rf (some md), .int (nI p)] (fun v S' => v = some (.int (nI (unf f p))) ∧ S' = S) (fun _ => False) := by
  refine MT_of (by decide +kernel) hl rfl (Nat.le_of_ble_eq_true rfl) (fun Z hC hzl hnm hT hQ => ?_)
  change J G Z S 0 0 0 [some (va_rf (some md)), some (.int (nI p)), none, none, none, none, none, none, none, none, none, none] []
  have loop : ∀ (m k : Nat), k + m = 3 → ∀ (o9 o10 o11 : Option Value) (i sz : Int32), (k < 3 → i = nI (2 - k) ∧ sz = nI (2 * (uall f p k).2.2.2.2.2)) → (k = 3 → i = -1) →
      J G Z S 0 0 20 [some (va_rf (some md)), some (.int (nI p)), some (.int (nI (uall f p k).1)), some (.int (nI (uall f p k).2.1)), some (.int (nI (uall f p k).2.2.1)), some (.int (nI (uall f p k).2.2.2.1)), some (.int (nI (uall f p k).2.2.2.2.1)), some (.int sz), some (.int i), o9, o10, o11] [] := by
    intro m
    induction m with
    | zero =>
      intro k hk o9 o10 o11 i sz _ hi
      have hk : k = 3 := by omega
      subst hk
      have hi := hi rfl
      subst hi
      refine r_iload hC dX8_unfolded_20 rfl ?_
      refine r_iflt (tgt := 175) hC dX8_unfolded_22 (by decide) (fun h22 => ?_) (fun h22 => ?_)
      · skip
        refine r_iconst (v := nI 4) hC dX8_unfolded_175 (by decide) ?_
        refine r_iload_n hC dX8_unfolded_176 rfl rfl ?_
        refine r_imul hC dX8_unfolded_177 ?_
        rw [show (nI 4 * nI (uall f p 3).1 : Int32) = nI (4 * (uall f p 3).1) from pk_mul _ _]
        refine r_iload_n hC dX8_unfolded_178 rfl rfl ?_
        refine r_iadd hC dX8_unfolded_179 ?_
        rw [nI_add]
        refine r_iret hC hQ rfl dX8_unfolded_180 (Nat.le_of_ble_eq_true rfl) (Nat.le_of_ble_eq_true rfl) ?_
        refine ⟨?_, rfl⟩
        unfold unf
        rw [Nat.mul_comm]
      · exact absurd (by decide) h22
    | succ m ih =>
      intro k hk o9 o10 o11 i sz hi _
      have hk3 : k < 3 := by omega
      obtain ⟨hi, hsz⟩ := hi hk3
      subst hi
      subst hsz
      obtain ⟨hu, hr2, hc2⟩ := uall_ok f hp k (by omega)
      have h4 : 2 ^ k ≤ 4 := by
        rcases (show k = 0 ∨ k = 1 ∨ k = 2 by omega) with rfl | rfl | rfl <;> decide
      have hhf := uall_h f p k
      have hev : k + 1 < 3 → 2 * (4 / 2 ^ k / 2) = 4 / 2 ^ k := by
        intro z
        rcases (show k = 0 ∨ k = 1 by omega) with rfl | rfl <;> decide
      have hus : uall f p (k + 1) = ustep (f (2 - k)) (uall f p k) := rfl
      generalize uall f p k = u at hu hr2 hc2 hus hhf ⊢
      obtain ⟨r, c, rs, cs, q, hh⟩ := u
      obtain ⟨w1, w2, w3, w4, w5, w6⟩ := hu
      dsimp only at w1 w2 w3 w4 w5 w6 hr2 hc2 hhf ⊢
      rw [← hhf] at hev
      have hf4 := okf_4 hok (show 2 - k < 3 by omega)
      have fin : ∀ (r' c' rs' cs' q' : Nat) (v9 v10 v11 : Option Value), ustep (f (2 - k)) (r, c, rs, cs, q, hh) = (r', c', rs', cs', q', hh / 2) → J G Z S 0 0 169 [some (va_rf (some md)), some (.int (nI p)), some (.int (nI r')), some (.int (nI c')), some (.int (nI rs')), some (.int (nI cs')), some (.int (nI q')), some (.int (nI hh)), some (.int (nI (2 - k))), v9, v10, v11] [] := by
        intro r' c' rs' cs' q' v9 v10 v11 he
        have hi2 : nI (2 - k) + Int32.ofInt (-1) = (if k + 1 < 3 then nI (2 - (k + 1)) else -1) := by
          rcases (show k = 0 ∨ k = 1 ∨ k = 2 by omega) with rfl | rfl | rfl <;> decide
        refine r_iinc hC dX8_unfolded_169 rfl (hi2) ?_
        refine r_goto (tgt := 20) hC dX8_unfolded_172 (by decide) ?_
        have h9 := ih (k + 1) (by omega) v9 v10 v11 (if k + 1 < 3 then nI (2 - (k + 1)) else -1) (nI hh) (fun h => ⟨if_pos h, by rw [hus, he, hev h]⟩) (fun h => if_neg (by omega))
        rw [hus, he] at h9
        exact h9
      have j74 : ∀ (tn : Bool), tn = decide (q < hh) → J G Z S 0 0 74 [some (va_rf (some md)), some (.int (nI p)), some (.int (nI r)), some (.int (nI c)), some (.int (nI rs)), some (.int (nI cs)), some (.int (nI q)), some (.int (nI hh)), some (.int (nI (2 - k))), some (.int (nI (f (2 - k)))), some (.int (bI tn)), o11] [.int (nI (if tn then hh - 1 - q else q - hh))] := by
        intro tn htn
        refine r_istore hC dX8_unfolded_74 (by decide) ?_
        refine r_iload hC dX8_unfolded_76 rfl ?_
        refine r_iconst (v := nI 2) hC dX8_unfolded_78 (by decide) ?_
        refine r_icge (tgt := 127) hC dX8_unfolded_79 (by decide) (fun h79 => ?_) (fun h79 => ?_)
        · have hlt : ¬ f (2 - k) < 2 := fun z => absurd ((nI_leI (by omega) (by omega)).mp h79) (by omega)
          have j162 : ∀ w v11, w = ufl r rs tn (f (2 - k) == 2) → J G Z S 0 0 162 [some (va_rf (some md)), some (.int (nI p)), some (.int (nI r)), some (.int (nI c)), some (.int (nI rs)), some (.int (nI cs)), some (.int (nI (if tn then hh - 1 - q else q - hh))), some (.int (nI hh)), some (.int (nI (2 - k))), some (.int (nI (f (2 - k)))), some (.int (bI tn)), v11] [.int (nI w)] := by
            intro w v11 hw
            refine r_istore_n hC dX8_unfolded_162 rfl (by decide) ?_
            refine r_iload hC dX8_unfolded_163 rfl ?_
            refine r_iconst (v := nI 2) hC dX8_unfolded_165 (by decide) ?_
            refine r_imul hC dX8_unfolded_166 ?_
            rw [show nI rs * nI 2 = nI (rs * 2) from pk_mul _ _]
            refine r_istore hC dX8_unfolded_167 (by decide) ?_
            refine fin _ _ _ _ _ _ _ _ ?_
            simp only [ustep]
            rw [if_neg hlt, hw, htn]
          have j141 : ∀ st : Bool, st = (f (2 - k) == 2) → J G Z S 0 0 141 [some (va_rf (some md)), some (.int (nI p)), some (.int (nI r)), some (.int (nI c)), some (.int (nI rs)), some (.int (nI cs)), some (.int (nI (if tn then hh - 1 - q else q - hh))), some (.int (nI hh)), some (.int (nI (2 - k))), some (.int (nI (f (2 - k)))), some (.int (bI tn)), o11] [.int (nI (if st then r else rs + r))] := by
            intro st hst
            have hb : (if st then r else rs + r) < 2 * rs := by cases st <;> simp <;> omega
            refine r_istore hC dX8_unfolded_141 (by decide) ?_
            refine r_iload hC dX8_unfolded_143 rfl ?_
            refine r_ifeq (tgt := 160) hC dX8_unfolded_145 (by decide) (fun h145 => ?_) (fun h145 => ?_)
            · have : tn = false := by cases tn with | false => rfl | true => exact absurd h145 (by decide)
              refine r_iload hC dX8_unfolded_160 rfl ?_
              refine j162 _ _ ?_
              rw [this, ← hst]
              rfl
            · have : tn = true := by cases tn with | true => rfl | false => exact absurd rfl h145
              refine r_iconst (v := nI 2) hC dX8_unfolded_148 (by decide) ?_
              refine r_iload hC dX8_unfolded_149 rfl ?_
              refine r_imul hC dX8_unfolded_151 ?_
              rw [pk_mul]
              refine r_iconst (v := nI 1) hC dX8_unfolded_152 (by decide) ?_
              refine r_isub hC dX8_unfolded_153 ?_
              rw [pk_sub (by omega)]
              refine r_iload hC dX8_unfolded_154 rfl ?_
              refine r_isub hC dX8_unfolded_156 ?_
              rw [pk_sub (by omega)]
              refine r_goto (tgt := 162) hC dX8_unfolded_157 (by decide) ?_
              refine j162 _ _ ?_
              rw [this, ← hst]
              rfl
          refine r_iload hC dX8_unfolded_127 rfl ?_
          refine r_iconst (v := nI 2) hC dX8_unfolded_129 (by decide) ?_
          refine r_icne (tgt := 137) hC dX8_unfolded_130 (by decide) (fun h130 => ?_) (fun h130 => ?_)
          · have : f (2 - k) ≠ 2 := fun z => h130 (by rw [z])
            refine r_iload hC dX8_unfolded_137 rfl ?_
            refine r_iload_n hC dX8_unfolded_139 rfl rfl ?_
            refine r_iadd hC dX8_unfolded_140 ?_
            rw [nI_add]
            refine j141 false ?_
            simp [this]
          · have : f (2 - k) = 2 := (nI_eq (by omega) (by decide)).mp h130
            refine r_iload_n hC dX8_unfolded_133 rfl rfl ?_
            refine r_goto (tgt := 141) hC dX8_unfolded_134 (by decide) ?_
            refine j141 true ?_
            simp [this]
        · have hlt : f (2 - k) < 2 := Nat.lt_of_not_le (fun z => h79 (nI_le z (by omega)))
          have j117 : ∀ w v11, w = ufl c cs tn (f (2 - k) == 1) → J G Z S 0 0 117 [some (va_rf (some md)), some (.int (nI p)), some (.int (nI r)), some (.int (nI c)), some (.int (nI rs)), some (.int (nI cs)), some (.int (nI (if tn then hh - 1 - q else q - hh))), some (.int (nI hh)), some (.int (nI (2 - k))), some (.int (nI (f (2 - k)))), some (.int (bI tn)), v11] [.int (nI w)] := by
            intro w v11 hw
            refine r_istore_n hC dX8_unfolded_117 rfl (by decide) ?_
            refine r_iload hC dX8_unfolded_118 rfl ?_
            refine r_iconst (v := nI 2) hC dX8_unfolded_120 (by decide) ?_
            refine r_imul hC dX8_unfolded_121 ?_
            rw [show nI cs * nI 2 = nI (cs * 2) from pk_mul _ _]
            refine r_istore hC dX8_unfolded_122 (by decide) ?_
            refine r_goto (tgt := 169) hC dX8_unfolded_124 (by decide) ?_
            refine fin _ _ _ _ _ _ _ _ ?_
            simp only [ustep]
            rw [if_pos hlt, hw, htn]
          have j96 : ∀ st : Bool, st = (f (2 - k) == 1) → J G Z S 0 0 96 [some (va_rf (some md)), some (.int (nI p)), some (.int (nI r)), some (.int (nI c)), some (.int (nI rs)), some (.int (nI cs)), some (.int (nI (if tn then hh - 1 - q else q - hh))), some (.int (nI hh)), some (.int (nI (2 - k))), some (.int (nI (f (2 - k)))), some (.int (bI tn)), o11] [.int (nI (if st then c else cs + c))] := by
            intro st hst
            have hb : (if st then c else cs + c) < 2 * cs := by cases st <;> simp <;> omega
            refine r_istore hC dX8_unfolded_96 (by decide) ?_
            refine r_iload hC dX8_unfolded_98 rfl ?_
            refine r_ifeq (tgt := 115) hC dX8_unfolded_100 (by decide) (fun h100 => ?_) (fun h100 => ?_)
            · have : tn = false := by cases tn with | false => rfl | true => exact absurd h100 (by decide)
              refine r_iload hC dX8_unfolded_115 rfl ?_
              refine j117 _ _ ?_
              rw [this, ← hst]
              rfl
            · have : tn = true := by cases tn with | true => rfl | false => exact absurd rfl h100
              refine r_iconst (v := nI 2) hC dX8_unfolded_103 (by decide) ?_
              refine r_iload hC dX8_unfolded_104 rfl ?_
              refine r_imul hC dX8_unfolded_106 ?_
              rw [pk_mul]
              refine r_iconst (v := nI 1) hC dX8_unfolded_107 (by decide) ?_
              refine r_isub hC dX8_unfolded_108 ?_
              rw [pk_sub (by omega)]
              refine r_iload hC dX8_unfolded_109 rfl ?_
              refine r_isub hC dX8_unfolded_111 ?_
              rw [pk_sub (by omega)]
              refine r_goto (tgt := 117) hC dX8_unfolded_112 (by decide) ?_
              refine j117 _ _ ?_
              rw [this, ← hst]
              rfl
          refine r_iload hC dX8_unfolded_82 rfl ?_
          refine r_iconst (v := nI 1) hC dX8_unfolded_84 (by decide) ?_
          refine r_icne (tgt := 92) hC dX8_unfolded_85 (by decide) (fun h85 => ?_) (fun h85 => ?_)
          · have : f (2 - k) ≠ 1 := fun z => h85 (by rw [z])
            refine r_iload hC dX8_unfolded_92 rfl ?_
            refine r_iload_n hC dX8_unfolded_94 rfl rfl ?_
            refine r_iadd hC dX8_unfolded_95 ?_
            rw [nI_add]
            refine j96 false ?_
            simp [this]
          · have : f (2 - k) = 1 := (nI_eq (by omega) (by decide)).mp h85
            refine r_iload_n hC dX8_unfolded_88 rfl rfl ?_
            refine r_goto (tgt := 96) hC dX8_unfolded_89 (by decide) ?_
            refine j96 true ?_
            simp [this]
      have j52 : ∀ (tn : Bool), tn = decide (q < hh) → J G Z S 0 0 52 [some (va_rf (some md)), some (.int (nI p)), some (.int (nI r)), some (.int (nI c)), some (.int (nI rs)), some (.int (nI cs)), some (.int (nI q)), some (.int (nI hh)), some (.int (nI (2 - k))), some (.int (nI (f (2 - k)))), o10, o11] [.int (bI tn)] := by
        intro tn htn
        refine r_istore hC dX8_unfolded_52 (by decide) ?_
        refine r_iload hC dX8_unfolded_54 rfl ?_
        refine r_ifeq (tgt := 69) hC dX8_unfolded_56 (by decide) (fun h56 => ?_) (fun h56 => ?_)
        · cases tn with
          | true => exact absurd h56 (by decide)
          | false =>
            refine r_iload hC dX8_unfolded_69 rfl ?_
            refine r_iload hC dX8_unfolded_71 rfl ?_
            refine r_isub hC dX8_unfolded_73 ?_
            rw [show nI q - nI hh = nI (q - hh) from pk_sub (by have := of_decide_eq_false htn.symm; omega)]
            exact j74 false htn
        · cases tn with
          | false => exact absurd rfl h56
          | true =>
            have hlt := of_decide_eq_true htn.symm
            refine r_iload hC dX8_unfolded_59 rfl ?_
            refine r_iconst (v := nI 1) hC dX8_unfolded_61 (by decide) ?_
            refine r_isub hC dX8_unfolded_62 ?_
            rw [show nI hh - nI 1 = nI (hh - 1) from pk_sub (by omega)]
            refine r_iload hC dX8_unfolded_63 rfl ?_
            refine r_isub hC dX8_unfolded_65 ?_
            refine r_goto (tgt := 74) hC dX8_unfolded_66 (by decide) ?_
            rw [show nI (hh - 1) - nI q = nI (hh - 1 - q) from pk_sub (by omega)]
            exact j74 true htn
      refine r_iload hC dX8_unfolded_20 rfl ?_
      refine r_iflt (tgt := 175) hC dX8_unfolded_22 (by decide) (fun h22 => ?_) (fun h22 => ?_)
      · exact absurd h22 (nI_pos (by omega))
      · skip
        refine r_aload_n hC dX8_unfolded_25 rfl rfl ?_
        refine r_getR  hC fl_X8_40 dX8_unfolded_26 (hM.kd) (hM.r 12 rfl) ?_
        refine r_iload hC dX8_unfolded_29 rfl ?_
        refine r_iald hC dX8_unfolded_31 (hM.k 12 rfl) (rfl) (hM.lt 12 rfl (by show _ < 3; omega)) (hM.b 12 rfl) ((congrFun (hM.a 12 rfl) _).trans (hF _ (by omega))) ?_
        refine r_istore hC dX8_unfolded_32 (by decide) ?_
        refine r_iload hC dX8_unfolded_34 rfl ?_
        refine r_iconst (v := nI 2) hC dX8_unfolded_36 (by decide) ?_
        refine r_idiv hC dX8_unfolded_37 (by decide) ?_
        rw [show nI (2 * hh) / nI 2 = nI hh from by rw [pk_div (by omega) (by decide) (by decide), Nat.mul_div_cancel_left _ (by decide)]]
        refine r_istore hC dX8_unfolded_38 (by decide) ?_
        refine r_iload hC dX8_unfolded_40 rfl ?_
        refine r_iload hC dX8_unfolded_42 rfl ?_
        refine r_icge (tgt := 51) hC dX8_unfolded_44 (by decide) (fun h44 => ?_) (fun h44 => ?_)
        · have hge := (nI_leI (by omega) (by omega)).mp h44
          refine r_iconst (v := nI 0) hC dX8_unfolded_51 (by decide) ?_
          exact j52 false (by simp; omega)
        · have hlt : q < hh := Nat.lt_of_not_le (fun z => h44 (nI_le z (by omega)))
          refine r_iconst (v := nI 1) hC dX8_unfolded_47 (by decide) ?_
          refine r_goto (tgt := 52) hC dX8_unfolded_48 (by decide) ?_
          exact j52 true (by simp; omega)
  refine r_iconst (v := nI 0) hC dX8_unfolded_0 (by decide) ?_
  refine r_istore_n hC dX8_unfolded_1 rfl (by decide) ?_
  refine r_iconst (v := nI 0) hC dX8_unfolded_2 (by decide) ?_
  refine r_istore_n hC dX8_unfolded_3 rfl (by decide) ?_
  refine r_iconst (v := nI 1) hC dX8_unfolded_4 (by decide) ?_
  refine r_istore hC dX8_unfolded_5 (by decide) ?_
  refine r_iconst (v := nI 1) hC dX8_unfolded_7 (by decide) ?_
  refine r_istore hC dX8_unfolded_8 (by decide) ?_
  refine r_iload_n hC dX8_unfolded_10 rfl rfl ?_
  refine r_istore hC dX8_unfolded_11 (by decide) ?_
  refine r_bipush (v := nI 8) hC dX8_unfolded_13 (by decide) ?_
  refine r_istore hC dX8_unfolded_15 (by decide) ?_
  refine r_iconst (v := nI 2) hC dX8_unfolded_17 (by decide) ?_
  refine r_istore hC dX8_unfolded_18 (by decide) ?_
  exact loop 3 0 (by omega) none none none _ _ (fun _ => ⟨rfl, rfl⟩) (fun h => absurd h (by decide))
set_option maxRecDepth 100000 in
theorem m_laysCells (hl : l.stackTraces = false) (hM : MM S tg md V N R) {f : Nat → Nat} (hok : okf f) (hF : ∀ k, k < 3 → R 12 k = nI (f k)) :
    MT l G S yX8_laysCells cX8_laysCells 2 none (rmA 1) [va_rf (some md)] (fun v S' => v = none ∧ MX S S' tg md V N (uR R 13 (clU f (R 13) 8))) (fun _ => False) := by
  refine MT_of (by decide +kernel) hl rfl (Nat.le_of_ble_eq_true rfl) (fun Z hC hzl hnm hT hQ => ?_)
  change J G Z S 0 0 0 [some (va_rf (some md)), none] []
  have hzs : (zl Z).stackTraces = false := by rw [hzl]; exact hl
  have loop : ∀ (d p : Nat) (S1 : PS), p + d = 8 → MX S S1 tg md V N (uR R 13 (clU f (R 13) p)) → J G Z S1 0 0 2 [some (va_rf (some md)), some (.int (nI p))] [] := by
    intro d
    induction d with
    | zero =>
      intro p S1 hp h1
      have hp : p = 8 := by omega
      subst hp
      refine r_iload_n hC dX8_laysCells_2 rfl rfl ?_
      refine r_bipush (v := nI 8) hC dX8_laysCells_3 (by decide) ?_
      refine r_icge (tgt := 25) hC dX8_laysCells_5 (by decide) (fun h5 => ?_) (fun h5 => ?_)
      · refine r_vret hC hQ rfl dX8_laysCells_25 (Nat.le_of_ble_eq_true rfl) (Nat.le_of_ble_eq_true rfl) ?_
        exact ⟨rfl, h1⟩
      · exact absurd (Int32.le_refl _) h5
    | succ d ih =>
      intro p S1 hp h1
      have hp8 : p < 8 := by omega
      refine r_iload_n hC dX8_laysCells_2 rfl rfl ?_
      refine r_bipush (v := nI 8) hC dX8_laysCells_3 (by decide) ?_
      refine r_icge (tgt := 25) hC dX8_laysCells_5 (by decide) (fun h5 => ?_) (fun h5 => ?_)
      · exact absurd ((nI_leI (by omega) (by omega)).mp h5) (by omega)
      · refine r_aload_n hC dX8_laysCells_8 rfl rfl ?_
        refine r_getR  hC fl_X8_43 dX8_laysCells_9 (h1.1.kd) (h1.1.r 13 rfl) ?_
        refine r_iload_n hC dX8_laysCells_12 rfl rfl ?_
        refine r_aload_n hC dX8_laysCells_13 rfl rfl ?_
        refine r_iload_n hC dX8_laysCells_14 rfl rfl ?_
        refine r_cV (as := [.int (nI p)]) hC (m_unfolded hzs h1.1 hok (fun k hk => hF k hk) hp8) cs_X8_unfolded q_924 q_926 q_51 (h1.1.kd) (by decide) rfl dX8_laysCells_15 rfl rfl ⟨Nat.le_of_ble_eq_true rfl, Nat.le_of_ble_eq_true rfl⟩ (Nat.le_of_ble_eq_true rfl) ⟨Nat.le_of_ble_eq_true rfl, Nat.le_of_ble_eq_true rfl⟩ (fun v15 S15 p15 => ?_) (fun _ x => x.elim)
        obtain ⟨rfl, e15⟩ := p15
        rw [e15]
        refine r_iast hC dX8_laysCells_18 (h1.1.k 13 rfl) (rfl) (h1.1.lt 13 rfl (by show _ < 8; omega)) (h1.1.b 13 rfl) ?_
        have h2 := h1.su 13 rfl p (nI (unf f p))
        rw [uR_uR, uR_s, clU_s] at h2
        refine r_iinc hC dX8_laysCells_19 rfl (ii1 _) ?_
        refine r_goto (tgt := 2) hC dX8_laysCells_22 (by decide) ?_
        exact ih (p + 1) _ (by omega) h2
  refine r_iconst (v := nI 0) hC dX8_laysCells_0 (by decide) ?_
  refine r_istore_n hC dX8_laysCells_1 rfl (by decide) ?_
  refine loop 8 0 S rfl ?_
  rw [clU_0, uR_id rfl]
  exact MX.rf hM
theorem lt2_sdw {x : Int32} (h1 : nI 0 ≤ x) (h2 : x ≤ nI 3) : (if x < nI 2 then 1 else 0) = sdw x := by
  obtain ⟨y, hy, rfl⟩ := rgb_n (by decide) h1 h2
  rw [sdw_n (by omega)]
  by_cases h : y < 2
  · rw [if_pos h, if_pos (nI_lt h (by decide))]
  · rw [if_neg h, if_neg (fun z => h ((nI_ltI (by omega) (by decide)).mp z))]
set_option maxRecDepth 100000 in
set_option maxHeartbeats 2000000 in
theorem m_setFolds (hl : l.stackTraces = false) (hM : MM S tg md V N R) (hMC : MC N R A) (x y z : Int32) :
    MT l G S yX8_setFolds cX8_setFolds 6 none (rmA 3) [va_rf (some md), .int x, .int y, .int z] (EMv S tg md V (oSetFolds A x y z)) (fun _ => False) := by
  refine MT_of (by decide +kernel) hl rfl (Nat.le_of_ble_eq_true rfl) (fun Z hC hzl hnm hT hQ => ?_)
  change J G Z S 0 0 0 [some (va_rf (some md)), some (.int x), some (.int y), some (.int z), none, none] []
  have hzs : (zl Z).stackTraces = false := by rw [hzl]; exact hl
  have j65 : ∀ (are : Bool) (w12 w3 : Nat), are = (rgb x 0 3 && rgb y 0 3 && rgb z 0 3) → w12 = (if x < nI 2 then 1 else 0) + (if y < nI 2 then 1 else 0) → w3 = (if z < nI 2 then 1 else 0) →
      J G Z S 0 0 65 [some (va_rf (some md)), some (.int x), some (.int y), some (.int z), some (.int (bI are)), none] [.int (nI w3), .int (nI w12)] := by
    intro are w12 w3 ha e12 e3
    have hw12 : w12 ≤ 2 := by rw [e12]; split <;> split <;> omega
    have hw3 : w3 ≤ 1 := by rw [e3]; split <;> omega
    have bad : oSetFolds A x y z = (1, 0, A) → J G Z S 0 0 84 [some (va_rf (some md)), some (.int x), some (.int y), some (.int z), some (.int (bI are)), some (.int (nI (w12 + w3)))] [va_rf (some md)] := by
      intro e
      refine r_iconst (v := nI 1) hC dX8_setFolds_84 (by decide) ?_
      refine r_cV (as := [.int (nI 1)]) hC (m_goes hzs hM (nI 1)) cs_X8_goes q_1010 q_1012 q_52 (hM.kd) (by decide) rfl dX8_setFolds_85 rfl rfl ⟨Nat.le_of_ble_eq_true rfl, Nat.le_of_ble_eq_true rfl⟩ (Nat.le_of_ble_eq_true rfl) ⟨Nat.le_of_ble_eq_true rfl, Nat.le_of_ble_eq_true rfl⟩ (fun v85 S85 p85 => ?_) (fun _ x => x.elim)
      obtain ⟨rfl, h1⟩ := p85
      refine r_ifeq (tgt := 116) hC dX8_setFolds_88 (by decide) (fun h88 => ?_) (fun h88 => ?_)
      · refine r_vret hC hQ rfl dX8_setFolds_116 (Nat.le_of_ble_eq_true rfl) (Nat.le_of_ble_eq_true rfl) ?_
        exact ⟨rfl, _, _, h1, by rw [e]; exact hMC.n23 _, by rw [e]; exact uN_s _ _ _⟩
      · exact absurd rfl h88
    refine r_iadd hC dX8_setFolds_65 ?_
    rw [nI_add]
    refine r_istore hC dX8_setFolds_66 (by decide) ?_
    refine r_aload_n hC dX8_setFolds_68 rfl rfl ?_
    refine r_iload hC dX8_setFolds_69 rfl ?_
    refine r_ifeq (tgt := 84) hC dX8_setFolds_71 (by decide) (fun h71 => ?_) (fun h71 => ?_)
    · refine bad ?_
      have : are = false := by cases are with | false => rfl | true => exact absurd h71 (by decide)
      unfold oSetFolds
      rw [if_neg (fun w => ?_)]
      rw [w.1.1, w.1.2.1, w.1.2.2, this] at ha
      exact absurd ha (by decide)
    · have hT : are = true := by cases are with | true => rfl | false => exact absurd rfl h71
      rw [hT] at ha
      have ha' := ha.symm
      rw [Bool.and_eq_true, Bool.and_eq_true] at ha'
      obtain ⟨⟨a1, a2⟩, a3⟩ := ha'
      obtain ⟨x1, x2⟩ := of_decide_eq_true a1
      obtain ⟨y1, y2⟩ := of_decide_eq_true a2
      obtain ⟨z1, z2⟩ := of_decide_eq_true a3
      rw [lt2_sdw x1 x2, lt2_sdw y1 y2] at e12
      rw [lt2_sdw z1 z2] at e3
      refine r_iload hC dX8_setFolds_74 rfl ?_
      refine r_iconst (v := nI 2) hC dX8_setFolds_76 (by decide) ?_
      refine r_icne (tgt := 84) hC dX8_setFolds_77 (by decide) (fun h77 => ?_) (fun h77 => ?_)
      · refine bad ?_
        unfold oSetFolds
        rw [if_neg (fun w => h77 ?_)]
        rw [e12, e3, w.2]
      · have h2 : w12 + w3 = 2 := (nI_eq (by omega) (by decide)).mp h77
        rw [e12, e3] at h2
        obtain ⟨a, ha3, rfl⟩ := rgb_n (by decide) x1 x2
        obtain ⟨b, hb3, rfl⟩ := rgb_n (by decide) y1 y2
        obtain ⟨c, hc3, rfl⟩ := rgb_n (by decide) z1 z2
        have hok : okf (folds3 a b c) := by
          refine ⟨⟨?_, ?_, ?_⟩, ?_⟩
          · show a < 4; omega
          · show b < 4; omega
          · show c < 4; omega
          · rw [sdw_n (by omega), sdw_n (by omega), sdw_n (by omega)] at h2
            exact h2
        have e : oSetFolds A (nI a) (nI b) (nI c) = (0, 0, uD (uD (uD A 7 0 0 0 a) 7 1 0 0 b) 7 2 0 0 c) := by
          unfold oSetFolds
          rw [if_pos ⟨⟨a1, a2, a3⟩, h2⟩, ii_n (by omega), ii_n (by omega), ii_n (by omega)]
        refine r_iconst (v := nI 0) hC dX8_setFolds_80 (by decide) ?_
        refine r_goto (tgt := 85) hC dX8_setFolds_81 (by decide) ?_
        refine r_cV (as := [.int (nI 0)]) hC (m_goes hzs hM (nI 0)) cs_X8_goes q_1010 q_1012 q_52 (hM.kd) (by decide) rfl dX8_setFolds_85 rfl rfl ⟨Nat.le_of_ble_eq_true rfl, Nat.le_of_ble_eq_true rfl⟩ (Nat.le_of_ble_eq_true rfl) ⟨Nat.le_of_ble_eq_true rfl, Nat.le_of_ble_eq_true rfl⟩ (fun v85 S85 p85 => ?_) (fun _ x => x.elim)
        obtain ⟨rfl, h1⟩ := p85
        refine r_ifeq (tgt := 116) hC dX8_setFolds_88 (by decide) (fun h88 => ?_) (fun h88 => ?_)
        · exact absurd h88 (by decide)
        · skip
          refine r_aload_n hC dX8_setFolds_91 rfl rfl ?_
          refine r_getR  hC fl_X8_40 dX8_setFolds_92 (h1.1.kd) (h1.1.r 12 rfl) ?_
          refine r_iconst (v := nI 0) hC dX8_setFolds_95 (by decide) ?_
          refine r_iload_n hC dX8_setFolds_96 rfl rfl ?_
          refine r_iast hC dX8_setFolds_97 (h1.1.k 12 rfl) (rfl) (h1.1.lt 12 rfl (by show _ < 3; omega)) (h1.1.b 12 rfl) ?_
          have h2 := h1.su 12 rfl 0 (nI a)
          refine r_aload_n hC dX8_setFolds_98 rfl rfl ?_
          refine r_getR  hC fl_X8_40 dX8_setFolds_99 (h2.1.kd) (h2.1.r 12 rfl) ?_
          refine r_iconst (v := nI 1) hC dX8_setFolds_102 (by decide) ?_
          refine r_iload_n hC dX8_setFolds_103 rfl rfl ?_
          refine r_iast hC dX8_setFolds_104 (h2.1.k 12 rfl) (rfl) (h2.1.lt 12 rfl (by show _ < 3; omega)) (h2.1.b 12 rfl) ?_
          have h3 := h2.su 12 rfl 1 (nI b)
          rw [uR_uR, uR_s] at h3
          refine r_aload_n hC dX8_setFolds_105 rfl rfl ?_
          refine r_getR  hC fl_X8_40 dX8_setFolds_106 (h3.1.kd) (h3.1.r 12 rfl) ?_
          refine r_iconst (v := nI 2) hC dX8_setFolds_109 (by decide) ?_
          refine r_iload_n hC dX8_setFolds_110 rfl rfl ?_
          refine r_iast hC dX8_setFolds_111 (h3.1.k 12 rfl) (rfl) (h3.1.lt 12 rfl (by show _ < 3; omega)) (h3.1.b 12 rfl) ?_
          have h4 := h3.su 12 rfl 2 (nI c)
          rw [uR_uR, uR_s] at h4
          have hF : ∀ k, k < 3 → (uR R 12 (upd (upd (upd (R 12) 0 (nI a)) 1 (nI b)) 2 (nI c))) 12 k = nI (folds3 a b c k) := by
            intro k hk
            rcases (show k = 0 ∨ k = 1 ∨ k = 2 by omega) with rfl | rfl | rfl <;> rfl
          refine r_aload_n hC dX8_setFolds_112 rfl rfl ?_
          refine r_cV (as := []) hC (m_laysCells hzs h4.1 hok hF) cs_X8_laysCells q_920 q_922 q_50 (h4.1.kd) (by decide) rfl dX8_setFolds_113 rfl rfl ⟨Nat.le_of_ble_eq_true rfl, Nat.le_of_ble_eq_true rfl⟩ (Nat.le_of_ble_eq_true rfl) ⟨Nat.le_of_ble_eq_true rfl, Nat.le_of_ble_eq_true rfl⟩ (fun v113 S113 p113 => ?_) (fun _ x => x.elim)
          obtain ⟨rfl, h5⟩ := p113
          refine r_vret hC hQ rfl dX8_setFolds_116 (Nat.le_of_ble_eq_true rfl) (Nat.le_of_ble_eq_true rfl) ?_
          rw [e]
          obtain ⟨n1, q1, q2, q3, q4, q5, q6⟩ := hMC
          refine ⟨rfl, _, _, h4.tr h5, ⟨n1, q1, q2, q3, ⟨?_, ?_⟩, q5, q6⟩, rfl⟩
          · intro k hk
            rcases (show k = 0 ∨ k = 1 ∨ k = 2 by omega) with rfl | rfl | rfl <;> rfl
          · intro p hp
            show clU (folds3 a b c) _ 8 p = _
            unfold clU
            rw [if_pos hp]
            refine congrArg nI (unf_cong (fun i hi => ?_) p)
            rcases (show i = 0 ∨ i = 1 ∨ i = 2 by omega) with rfl | rfl | rfl <;> rfl
  have j54 : ∀ (are : Bool) (w1 w2 : Nat), are = (rgb x 0 3 && rgb y 0 3 && rgb z 0 3) → w1 = (if x < nI 2 then 1 else 0) → w2 = (if y < nI 2 then 1 else 0) →
      J G Z S 0 0 54 [some (va_rf (some md)), some (.int x), some (.int y), some (.int z), some (.int (bI are)), none] [.int (nI w2), .int (nI w1)] := by
    intro are w1 w2 ha e1 e2
    refine r_iadd hC dX8_setFolds_54 ?_
    rw [nI_add]
    refine r_iload_n hC dX8_setFolds_55 rfl rfl ?_
    refine r_iconst (v := nI 2) hC dX8_setFolds_56 (by decide) ?_
    refine r_icge (tgt := 64) hC dX8_setFolds_57 (by decide) (fun h57 => ?_) (fun h57 => ?_)
    · refine r_iconst (v := nI 0) hC dX8_setFolds_64 (by decide) ?_
      exact j65 are (w1 + w2) 0 ha (by rw [e1, e2]) (if_neg (fun w => absurd h57 (Int32.not_le.mpr w))).symm
    · refine r_iconst (v := nI 1) hC dX8_setFolds_60 (by decide) ?_
      refine r_goto (tgt := 65) hC dX8_setFolds_61 (by decide) ?_
      exact j65 are (w1 + w2) 1 ha (by rw [e1, e2]) (if_pos (Int32.not_le.mp h57)).symm
  have j44 : ∀ (are : Bool) (w1 : Nat), are = (rgb x 0 3 && rgb y 0 3 && rgb z 0 3) → w1 = (if x < nI 2 then 1 else 0) →
      J G Z S 0 0 44 [some (va_rf (some md)), some (.int x), some (.int y), some (.int z), some (.int (bI are)), none] [.int (nI w1)] := by
    intro are w1 ha e1
    refine r_iload_n hC dX8_setFolds_44 rfl rfl ?_
    refine r_iconst (v := nI 2) hC dX8_setFolds_45 (by decide) ?_
    refine r_icge (tgt := 53) hC dX8_setFolds_46 (by decide) (fun h46 => ?_) (fun h46 => ?_)
    · refine r_iconst (v := nI 0) hC dX8_setFolds_53 (by decide) ?_
      exact j54 are w1 0 ha e1 (if_neg (fun w => absurd h46 (Int32.not_le.mpr w))).symm
    · refine r_iconst (v := nI 1) hC dX8_setFolds_49 (by decide) ?_
      refine r_goto (tgt := 54) hC dX8_setFolds_50 (by decide) ?_
      exact j54 are w1 1 ha e1 (if_pos (Int32.not_le.mp h46)).symm
  have j32 : ∀ (are : Bool), are = (rgb x 0 3 && rgb y 0 3 && rgb z 0 3) →
      J G Z S 0 0 32 [some (va_rf (some md)), some (.int x), some (.int y), some (.int z), none, none] [.int (bI are)] := by
    intro are ha
    refine r_istore hC dX8_setFolds_32 (by decide) ?_
    refine r_iload_n hC dX8_setFolds_34 rfl rfl ?_
    refine r_iconst (v := nI 2) hC dX8_setFolds_35 (by decide) ?_
    refine r_icge (tgt := 43) hC dX8_setFolds_36 (by decide) (fun h36 => ?_) (fun h36 => ?_)
    · refine r_iconst (v := nI 0) hC dX8_setFolds_43 (by decide) ?_
      exact j44 are 0 ha (if_neg (fun w => absurd h36 (Int32.not_le.mpr w))).symm
    · refine r_iconst (v := nI 1) hC dX8_setFolds_39 (by decide) ?_
      refine r_goto (tgt := 44) hC dX8_setFolds_40 (by decide) ?_
      exact j44 are 1 ha (if_pos (Int32.not_le.mp h36)).symm
  have j31 : (rgb x 0 3 && rgb y 0 3 && rgb z 0 3) = false → J G Z S 0 0 31 [some (va_rf (some md)), some (.int x), some (.int y), some (.int z), none, none] [] := by
    intro hz
    refine r_iconst (v := nI 0) hC dX8_setFolds_31 (by decide) ?_
    exact j32 false hz.symm
  refine r_iload_n hC dX8_setFolds_0 rfl rfl ?_
  refine r_iconst (v := nI 0) hC dX8_setFolds_1 (by decide) ?_
  refine r_iconst (v := nI 3) hC dX8_setFolds_2 (by decide) ?_
  refine r_cS (as := [.int x, .int (nI 0), .int (nI 3)]) hC (m_isIn hzs x (nI 0) (nI 3)) cs_X8_isIn q_1022 q_1023 dX8_setFolds_3 rfl rfl ⟨Nat.le_of_ble_eq_true rfl, Nat.le_of_ble_eq_true rfl⟩ (Nat.le_of_ble_eq_true rfl) ⟨Nat.le_of_ble_eq_true rfl, Nat.le_of_ble_eq_true rfl⟩ (fun v3 S3 p3 => ?_) (fun _ x => x.elim)
  obtain ⟨rfl, e3⟩ := p3
  rw [e3]
  change J G Z _ _ _ _ _ [.int (bI (rgb x 0 3))]
  cases hx : rgb x 0 3 with
  | false =>
    refine r_ifeq (tgt := 31) hC dX8_setFolds_6 (by decide) (fun h6 => ?_) (fun h6 => ?_)
    · exact j31 (by rw [hx]; rfl)
    · exact absurd rfl h6
  | true =>
    refine r_ifeq (tgt := 31) hC dX8_setFolds_6 (by decide) (fun h6 => ?_) (fun h6 => ?_)
    · exact absurd h6 (by decide)
    · refine r_iload_n hC dX8_setFolds_9 rfl rfl ?_
      refine r_iconst (v := nI 0) hC dX8_setFolds_10 (by decide) ?_
      refine r_iconst (v := nI 3) hC dX8_setFolds_11 (by decide) ?_
      refine r_cS (as := [.int y, .int (nI 0), .int (nI 3)]) hC (m_isIn hzs y (nI 0) (nI 3)) cs_X8_isIn q_1022 q_1023 dX8_setFolds_12 rfl rfl ⟨Nat.le_of_ble_eq_true rfl, Nat.le_of_ble_eq_true rfl⟩ (Nat.le_of_ble_eq_true rfl) ⟨Nat.le_of_ble_eq_true rfl, Nat.le_of_ble_eq_true rfl⟩ (fun v12 S12 p12 => ?_) (fun _ x => x.elim)
      obtain ⟨rfl, e12⟩ := p12
      rw [e12]
      change J G Z _ _ _ _ _ [.int (bI (rgb y 0 3))]
      cases hy : rgb y 0 3 with
      | false =>
        refine r_ifeq (tgt := 31) hC dX8_setFolds_15 (by decide) (fun h15 => ?_) (fun h15 => ?_)
        · exact j31 (by rw [hx, hy]; rfl)
        · exact absurd rfl h15
      | true =>
        refine r_ifeq (tgt := 31) hC dX8_setFolds_15 (by decide) (fun h15 => ?_) (fun h15 => ?_)
        · exact absurd h15 (by decide)
        · refine r_iload_n hC dX8_setFolds_18 rfl rfl ?_
          refine r_iconst (v := nI 0) hC dX8_setFolds_19 (by decide) ?_
          refine r_iconst (v := nI 3) hC dX8_setFolds_20 (by decide) ?_
          refine r_cS (as := [.int z, .int (nI 0), .int (nI 3)]) hC (m_isIn hzs z (nI 0) (nI 3)) cs_X8_isIn q_1022 q_1023 dX8_setFolds_21 rfl rfl ⟨Nat.le_of_ble_eq_true rfl, Nat.le_of_ble_eq_true rfl⟩ (Nat.le_of_ble_eq_true rfl) ⟨Nat.le_of_ble_eq_true rfl, Nat.le_of_ble_eq_true rfl⟩ (fun v21 S21 p21 => ?_) (fun _ x => x.elim)
          obtain ⟨rfl, e21⟩ := p21
          rw [e21]
          change J G Z _ _ _ _ _ [.int (bI (rgb z 0 3))]
          cases hz : rgb z 0 3 with
          | false =>
            refine r_ifeq (tgt := 31) hC dX8_setFolds_24 (by decide) (fun h24 => ?_) (fun h24 => ?_)
            · exact j31 (by rw [hx, hy, hz]; rfl)
            · exact absurd rfl h24
          | true =>
            refine r_ifeq (tgt := 31) hC dX8_setFolds_24 (by decide) (fun h24 => ?_) (fun h24 => ?_)
            · exact absurd h24 (by decide)
            · refine r_iconst (v := nI 1) hC dX8_setFolds_27 (by decide) ?_
              refine r_goto (tgt := 32) hC dX8_setFolds_28 (by decide) ?_
              exact j32 true (by rw [hx, hy, hz]; rfl)
end MFold

