/-! ===== piles: all folds, and what lies at a place ===== -/
theorem allP_cong {f g : Nat → Nat} (h : ∀ i, i < 3 → f i = g i) : ∀ k, k ≤ 3 → allP f k = allP g k := by
  intro k
  induction k with
  | zero => intro _; rfl
  | succ k ih =>
    intro hk
    simp only [allP]
    rw [ih (by omega), h k (by omega)]
theorem uall_cong {f g : Nat → Nat} (h : ∀ i, i < 3 → f i = g i) (p : Nat) : ∀ k, k ≤ 3 → uall f p k = uall g p k := by
  intro k
  induction k with
  | zero => intro _; rfl
  | succ k ih =>
    intro hk
    simp only [uall]
    rw [ih (by omega), h (2 - k) (by omega)]
theorem unf_cong {f g : Nat → Nat} (h : ∀ i, i < 3 → f i = g i) (p : Nat) : unf f p = unf g p := by
  unfold unf
  rw [uall_cong h p 3 (Nat.le_refl _)]
theorem okP_all {f : Nat → Nat} (h : okf f) : okP (f 0) (f 1) (f 2) = true := by
  obtain ⟨⟨h0, h1, h2⟩, h3⟩ := h
  by_cases a : f 0 < 2 <;> by_cases b : f 1 < 2 <;> by_cases c : f 2 < 2 <;> simp only [a, b, c, if_true, if_false] at h3 <;> first | omega | skip
  · have := okP_3 (f 0) a (f 1) b (f 2 - 2) (by omega)
    rwa [show 2 + (f 2 - 2) = f 2 by omega] at this
  · have := okP_2 (f 0) a (f 1 - 2) (by omega) (f 2) c
    rwa [show 2 + (f 1 - 2) = f 1 by omega] at this
  · have := okP_1 (f 0 - 2) (by omega) (f 1) b (f 2) c
    rwa [show 2 + (f 0 - 2) = f 0 by omega] at this
theorem folds3_eq (f : Nat → Nat) : ∀ i, i < 3 → f i = folds3 (f 0) (f 1) (f 2) i := by
  intro i hi
  rcases (show i = 0 ∨ i = 1 ∨ i = 2 by omega) with rfl | rfl | rfl <;> rfl
/-- behind all folds: the pile that is left, its height, the cell at each place -/
theorem allP_end {f : Nat → Nat} (h : okf f) : pil (allP f 3) 0 0 < 8 ∧ (allP f 3).2.1 (pil (allP f 3) 0 0) = 8 ∧ ∀ i, i < 8 → (allP f 3).1 (pil (allP f 3) 0 0 * 8 + i) = some (unf f i) := by
  have hk := okP_all h
  unfold okP at hk
  simp only [Bool.and_eq_true, decide_eq_true_eq, List.all_eq_true, List.mem_range, beq_iff_eq] at hk
  rw [allP_cong (folds3_eq f) 3 (Nat.le_refl _)]
  refine ⟨hk.1.1, hk.1.2, fun i hi => ?_⟩
  rw [unf_cong (folds3_eq f)]
  exact hk.2 i hi
section PilesE
variable {l : Launch} {G : GG} {S : PS} {p ac ah d fa : Nat} {f : Nat → Nat}
theorem isFd.ex {S S' : PS} {d a : Nat} {f : Nat → Nat} {XI XR : Nat → Nat → Prop} {XA XB : Nat → Prop} (h : isFd S d a f) (hx : Ex S S' XI XR XA XB) (h1 : ¬ XR 64 d) (h2 : ¬ XA a) : isFd S' d a f := by
  obtain ⟨kd, rd, ka, na, ha, hok⟩ := h
  refine ⟨hx.kd kd, ((hx d kd.1).2.2.2.2.1 64 h1).trans rd, hx.kd ka, ((hx a ka.1).2.2.1).trans na, fun i hi => ?_, hok⟩
  rw [(hx a ka.1).2.2.2.2.2.1 h2]
  exact ha i hi
set_option maxRecDepth 100000 in
set_option maxHeartbeats 2000000 in
theorem c_foldAll (hl : l.stackTraces = false) (hp : isPi S p ac ah) (hf : isFd S d fa f) (n1 : fa ≠ ac) (n2 : fa ≠ ah) :
    MT l G S yX5_foldAll cX5_foldAll 4 none (rmA 2) [va_rf (some p), va_rf (some d)] (fun v S' => v = none ∧ PiR S' p ac ah (allP f 3) ∧ ExP S S' p ac ah) (fun _ => False) := by
  refine MT_of (by decide +kernel) hl rfl (Nat.le_of_ble_eq_true rfl) (fun Z hC hzl hnm hT hQ => ?_)
  change J G Z S 0 0 0 [some (va_rf (some p)), some (va_rf (some d)), none, none] []
  have hzs : (zl Z).stackTraces = false := by rw [hzl]; exact hl
  have loop : ∀ (m i : Nat) (S1 : PS) (o : Option Value), i + m = 3 → PiR S1 p ac ah (allP f i) → ExP S S1 p ac ah → J G Z S1 0 0 6 [some (va_rf (some p)), some (va_rf (some d)), some (.int (nI i)), o] [] := by
    intro m
    induction m with
    | zero =>
      intro i S1 o hi hr hx
      have hi : i = 3 := by omega
      subst hi
      refine r_iload_n hC dX5_foldAll_6 rfl rfl ?_
      refine r_iconst (v := nI 3) hC dX5_foldAll_7 (by decide) ?_
      refine r_icge (tgt := 64) hC dX5_foldAll_8 (by decide) (fun h8 => ?_) (fun h8 => ?_)
      · skip
        refine r_vret hC hQ rfl dX5_foldAll_64 (Nat.le_of_ble_eq_true rfl) (Nat.le_of_ble_eq_true rfl) ?_
        exact ⟨rfl, hr, hx⟩
      · exact absurd (nI_le (Nat.le_refl _) (by decide)) h8
    | succ m ih =>
      intro i S1 o hi hr hx
      have hi3 : i < 3 := by omega
      have hp1 := hp.ex hx
      obtain ⟨kd, rd, ka, na, ha, hok⟩ := hf.ex hx (fun z => z) (fun z => z.elim n1 n2)
      have hf4 := okf_4 hok hi3
      refine r_iload_n hC dX5_foldAll_6 rfl rfl ?_
      refine r_iconst (v := nI 3) hC dX5_foldAll_7 (by decide) ?_
      refine r_icge (tgt := 64) hC dX5_foldAll_8 (by decide) (fun h8 => ?_) (fun h8 => ?_)
      · exact absurd ((nI_leI (by omega) (by omega)).mp h8) (by omega)
      · skip
        refine r_aload_n hC dX5_foldAll_11 rfl rfl ?_
        refine r_getR  hC fl_X5_34 dX5_foldAll_12 (kd) (rd) ?_
        refine r_iload_n hC dX5_foldAll_15 rfl rfl ?_
        refine r_iald hC dX5_foldAll_16 (ka) (rfl) (by rw [na]; omega) (by rw [na]; decide) (ha i hi3) ?_
        refine r_istore_n hC dX5_foldAll_17 rfl (by decide) ?_
        have next : ∀ S2, PiR S2 p ac ah (stepP (f i) (allP f i)) → ExP S S2 p ac ah → J G Z S2 0 0 58 [some (va_rf (some p)), some (va_rf (some d)), some (.int (nI i)), some (.int (nI (f i)))] [] := by
          intro S2 hr2 hx2
          refine r_iinc hC dX5_foldAll_58 rfl (ii1 _) ?_
          refine r_goto (tgt := 6) hC dX5_foldAll_61 (by decide) ?_
          exact ih (i + 1) S2 _ (by omega) hr2 hx2
        have side : f i < 2 → J G Z S1 0 0 27 [some (va_rf (some p)), some (va_rf (some d)), some (.int (nI i)), some (.int (nI (f i)))] [] := by
          intro hlt
          have j38 : ∀ st : Bool, st = (f i == 1) → J G Z S1 0 0 38 [some (va_rf (some p)), some (va_rf (some d)), some (.int (nI i)), some (.int (nI (f i)))] [.int (bI st), va_rf (some p)] := by
            intro st hst
            refine r_cV (as := [.int (bI st)]) hC (c_foldSideways hzs hp1 hr st) cs_X5_foldSideways q_666 q_668 q_27 (hp1.1) (by decide) rfl dX5_foldAll_38 rfl rfl ⟨Nat.le_of_ble_eq_true rfl, Nat.le_of_ble_eq_true rfl⟩ (Nat.le_of_ble_eq_true rfl) ⟨Nat.le_of_ble_eq_true rfl, Nat.le_of_ble_eq_true rfl⟩ (fun v38 S38 p38 => ?_) (fun _ x => x.elim)
            obtain ⟨rfl, hr2, hx2⟩ := p38
            refine r_goto (tgt := 58) hC dX5_foldAll_41 (by decide) ?_
            refine next _ ?_ (hx.tr hx2)
            unfold stepP
            rw [if_pos hlt, ← hst]
            exact hr2
          refine r_aload_n hC dX5_foldAll_27 rfl rfl ?_
          refine r_iload_n hC dX5_foldAll_28 rfl rfl ?_
          refine r_iconst (v := nI 1) hC dX5_foldAll_29 (by decide) ?_
          refine r_icne (tgt := 37) hC dX5_foldAll_30 (by decide) (fun h30 => ?_) (fun h30 => ?_)
          · skip
            refine r_iconst (v := nI 0) hC dX5_foldAll_37 (by decide) ?_
            refine j38 false ?_
            have : f i ≠ 1 := fun z => h30 (by rw [z])
            simp [this]
          · skip
            refine r_iconst (v := nI 1) hC dX5_foldAll_33 (by decide) ?_
            refine r_goto (tgt := 38) hC dX5_foldAll_34 (by decide) ?_
            refine j38 true ?_
            have : f i = 1 := (nI_eq (by omega) (by decide)).mp h30
            simp [this]
        refine r_iload_n hC dX5_foldAll_18 rfl rfl ?_
        refine r_ifeq (tgt := 27) hC dX5_foldAll_19 (by decide) (fun h19 => ?_) (fun h19 => ?_)
        · have : f i = 0 := (nI_eq (by omega) (by decide)).mp h19
          exact side (by omega)
        · have h0 : f i ≠ 0 := fun z => h19 (by rw [z]; rfl)
          refine r_iload_n hC dX5_foldAll_22 rfl rfl ?_
          refine r_iconst (v := nI 1) hC dX5_foldAll_23 (by decide) ?_
          refine r_icne (tgt := 44) hC dX5_foldAll_24 (by decide) (fun h24 => ?_) (fun h24 => ?_)
          · have h1 : f i ≠ 1 := fun z => h24 (by rw [z])
            have j55 : ∀ st : Bool, st = (f i == 2) → J G Z S1 0 0 55 [some (va_rf (some p)), some (va_rf (some d)), some (.int (nI i)), some (.int (nI (f i)))] [.int (bI st), va_rf (some p)] := by
              intro st hst
              refine r_cV (as := [.int (bI st)]) hC (c_foldUpright hzs hp1 hr st) cs_X5_foldUpright q_678 q_680 q_30 (hp1.1) (by decide) rfl dX5_foldAll_55 rfl rfl ⟨Nat.le_of_ble_eq_true rfl, Nat.le_of_ble_eq_true rfl⟩ (Nat.le_of_ble_eq_true rfl) ⟨Nat.le_of_ble_eq_true rfl, Nat.le_of_ble_eq_true rfl⟩ (fun v55 S55 p55 => ?_) (fun _ x => x.elim)
              obtain ⟨rfl, hr2, hx2⟩ := p55
              refine next _ ?_ (hx.tr hx2)
              unfold stepP
              rw [if_neg (by omega), ← hst]
              exact hr2
            refine r_aload_n hC dX5_foldAll_44 rfl rfl ?_
            refine r_iload_n hC dX5_foldAll_45 rfl rfl ?_
            refine r_iconst (v := nI 2) hC dX5_foldAll_46 (by decide) ?_
            refine r_icne (tgt := 54) hC dX5_foldAll_47 (by decide) (fun h47 => ?_) (fun h47 => ?_)
            · skip
              refine r_iconst (v := nI 0) hC dX5_foldAll_54 (by decide) ?_
              refine j55 false ?_
              have : f i ≠ 2 := fun z => h47 (by rw [z])
              simp [this]
            · skip
              refine r_iconst (v := nI 1) hC dX5_foldAll_50 (by decide) ?_
              refine r_goto (tgt := 55) hC dX5_foldAll_51 (by decide) ?_
              refine j55 true ?_
              have : f i = 2 := (nI_eq (by omega) (by decide)).mp h47
              simp [this]
          · have : f i = 1 := (nI_eq (by omega) (by decide)).mp h24
            exact side (by omega)
  refine r_aload_n hC dX5_foldAll_0 rfl rfl ?_
  refine r_cV (as := []) hC (c_spread hzs hp) cs_X5_spread q_662 q_664 q_26 (hp.1) (by decide) rfl dX5_foldAll_1 rfl rfl ⟨Nat.le_of_ble_eq_true rfl, Nat.le_of_ble_eq_true rfl⟩ (Nat.le_of_ble_eq_true rfl) ⟨Nat.le_of_ble_eq_true rfl, Nat.le_of_ble_eq_true rfl⟩ (fun v1 S1 p1 => ?_) (fun _ x => x.elim)
  obtain ⟨rfl, hr, hx⟩ := p1
  refine r_iconst (v := nI 0) hC dX5_foldAll_4 (by decide) ?_
  refine r_istore_n hC dX5_foldAll_5 rfl (by decide) ?_
  exact loop 3 0 _ none (by omega) hr hx
set_option maxRecDepth 100000 in
theorem c_cellAt (hl : l.stackTraces = false) (hp : isPi S p ac ah) (hok : okf f) (hr : PiR S p ac ah (allP f 3)) {i : Nat} (hi : i < 8) :
    MT l G S yX5_cellAt cX5_cellAt 3 (some .int) (rmA 1) [va_rf (some p), .int (nI i)] (fun v S' => v = some (.int (nI (unf f i))) ∧ S' = S) (fun _ => False) := by
  obtain ⟨e1, e2, e3⟩ := allP_end hok
  obtain ⟨kp, rc, rh, kc, nc, kh, nh, hch⟩ := id hp
  refine MT_of (by decide +kernel) hl rfl (Nat.le_of_ble_eq_true rfl) (fun Z hC hzl hnm hT hQ => ?_)
  change J G Z S 0 0 0 [some (va_rf (some p)), some (.int (nI i)), none] []
  have hzs : (zl Z).stackTraces = false := by rw [hzl]; exact hl
  refine r_aload_n hC dX5_cellAt_0 rfl rfl ?_
  refine r_iconst (v := nI 0) hC dX5_cellAt_1 (by decide) ?_
  refine r_iconst (v := nI 0) hC dX5_cellAt_2 (by decide) ?_
  refine r_cV (as := [.int (nI 0), .int (nI 0)]) hC (c_pileAt hzs hp hr (r := 0) (c := 0) (by decide) (by decide)) cs_X5_pileAt q_670 q_672 q_28 (kp) (by decide) rfl dX5_cellAt_3 rfl rfl ⟨Nat.le_of_ble_eq_true rfl, Nat.le_of_ble_eq_true rfl⟩ (Nat.le_of_ble_eq_true rfl) ⟨Nat.le_of_ble_eq_true rfl, Nat.le_of_ble_eq_true rfl⟩ (fun v3 S3 p3 => ?_) (fun _ x => x.elim)
  obtain ⟨rfl, e4⟩ := p3
  rw [e4]
  refine r_istore_n hC dX5_cellAt_6 rfl (by decide) ?_
  refine r_iload_n hC dX5_cellAt_7 rfl rfl ?_
  refine r_iflt (tgt := 31) hC dX5_cellAt_8 (by decide) (fun h8 => ?_) (fun h8 => ?_)
  · exact absurd h8 (nI_pos (by omega))
  · skip
    refine r_iload_n hC dX5_cellAt_11 rfl rfl ?_
    refine r_bipush (v := nI 8) hC dX5_cellAt_12 (by decide) ?_
    refine r_icge (tgt := 31) hC dX5_cellAt_14 (by decide) (fun h14 => ?_) (fun h14 => ?_)
    · exact absurd ((nI_leI (by omega) (by omega)).mp h14) (by omega)
    · skip
      refine r_iload_n hC dX5_cellAt_17 rfl rfl ?_
      refine r_iflt (tgt := 31) hC dX5_cellAt_18 (by decide) (fun h18 => ?_) (fun h18 => ?_)
      · exact absurd h18 (nI_pos (by omega))
      · skip
        refine r_iload_n hC dX5_cellAt_21 rfl rfl ?_
        refine r_aload_n hC dX5_cellAt_22 rfl rfl ?_
        refine r_getR  hC fl_X5_15 dX5_cellAt_23 (kp) (rh) ?_
        refine r_iload_n hC dX5_cellAt_26 rfl rfl ?_
        refine r_iald hC dX5_cellAt_27 (kh) (rfl) (show _ < pN S ah by rw [nh]; exact e1) (show pN S ah < 2147483648 by rw [nh]; decide) ((hr.2.1 _ e1).trans (by rw [e2])) ?_
        refine r_iclt (tgt := 33) hC dX5_cellAt_28 (by decide) (fun h28 => ?_) (fun h28 => ?_)
        · skip
          refine r_aload_n hC dX5_cellAt_33 rfl rfl ?_
          refine r_getR  hC fl_X5_9 dX5_cellAt_34 (kp) (rc) ?_
          refine r_iload_n hC dX5_cellAt_37 rfl rfl ?_
          refine r_bipush (v := nI 8) hC dX5_cellAt_38 (by decide) ?_
          refine r_imul hC dX5_cellAt_40 ?_
          refine r_iload_n hC dX5_cellAt_41 rfl rfl ?_
          refine r_iadd hC dX5_cellAt_42 ?_
          refine r_iald hC dX5_cellAt_43 (kc) ((show _ = nI (pil (allP f 3) 0 0 * 8 + i) by rw [pk_mul, nI_add])) (show _ < pN S ac by rw [nc]; omega) (show pN S ac < 2147483648 by rw [nc]; decide) (hr.1 _ (by omega) _ (e3 i hi)) ?_
          refine r_iret hC hQ rfl dX5_cellAt_44 (Nat.le_of_ble_eq_true rfl) (Nat.le_of_ble_eq_true rfl) ?_
          exact ⟨rfl, rfl⟩
        · exact absurd (nI_lt hi (by decide)) h28
end PilesE

