/-! ===== a new object ===== -/
def A0 : AS := (fun r i _ _ => if r = 0 then (if i = 3 then 2 else 0) else if r = 7 then (if i = 2 then 2 else 1) else 0, fun _ _ _ _ => 0)
theorem VU_A0 : VU A0 := by
  refine ⟨by decide, by decide, by decide, by decide, fun i hi => absurd hi (Nat.not_lt_zero i), fun o ho => absurd ho (Nat.not_lt_zero o), fun o ho => absurd ho (Nat.not_lt_zero o), ?_, fun j hj => absurd hj (Nat.not_lt_zero j), fun k => ?_, fun o ho => absurd ho (Nat.not_lt_zero o)⟩
  · show okf (fun k => if k = 2 then 2 else 1)
    unfold okf
    decide
  · exact Nat.zero_le _
theorem VF_A0 : VF A0 := fun o ho => absurd ho (Nat.not_lt_zero o)
abbrev rm4 (k n : Nat) : Room := { frames := 9, cells := k, slots := n, locals := 300 }
section InitA
variable {l : Launch} {G : GG} {S S1 S2 : PS} {tg : TG} {t : Nat}
theorem eList {k : Nat} (kt : KD S t 7) {q : Nat} (hq : q ∉ pL S) : Ex S (sR (sR (sI (sO S q 9) 288 q 0) 289 q (some (gE G))) (225 + k) t (some q)) (fun f y => y = t ∧ 231 ≤ f ∧ f < 256) (fun f y => y = t ∧ f = 225 + k) x0 x0 := by
  refine Ex.tR ?_ (Or.inl ⟨rfl, rfl⟩)
  refine Ex.tR ?_ (Or.inr hq)
  refine Ex.tI ?_ (Or.inr hq)
  exact Ex.newO hq
theorem lList {f q : Nat} (hq : q ∉ pL S) (hf : f ≠ 289) : KD (sR (sR (sI (sO S q 9) 288 q 0) 289 q (some (gE G))) f t (some q)) q 9 ∧ pI (sR (sR (sI (sO S q 9) 288 q 0) 289 q (some (gE G))) f t (some q)) 290 q = nI 0 ∧ pR (sR (sR (sI (sO S q 9) 288 q 0) 289 q (some (gE G))) f t (some q)) 289 q = some (gE G) := by
  refine ⟨(kd_newO : KD (sO S q 9) q 9), ?_, ?_⟩
  · show pI (sI (sO S q 9) 288 q 0) 290 q = nI 0
    rw [I_f _ _ _ _ (by decide)]
    show (if q = q then (0 : Int32) else pI S 290 q) = nI 0
    rw [if_pos rfl]
    rfl
  · rw [R_f _ _ _ _ (fun z => hf z.symm)]
    exact R_s _ 289 q _
theorem fList {q kd : Nat} {el : Nat → Nat} (h : KD S q 9 ∧ pI S 290 q = nI 0 ∧ pR S 289 q = some (gE G)) : isList G S q 0 kd el := ⟨h.1, h.2.1, gE G, h.2.2, Or.inl ⟨rfl, rfl⟩, fun i hi => absurd hi (Nat.not_lt_zero i)⟩
theorem fLA {q m : Nat} (h : pR S 289 q = some (gE G)) (hg : gE G ∉ pL S) : LA S tg q m := by
  intro arr h1 h2
  rw [Option.some.inj (h1.symm.trans h)] at h2
  exact absurd h2 hg
theorem tList {q : Nat} {XR : Nat → Nat → Prop} (h : KD S q 9 ∧ pI S 290 q = nI 0 ∧ pR S 289 q = some (gE G)) (hx : Ex S S1 (fun f y => y = t ∧ 231 ≤ f ∧ f < 256) XR x0 x0) (n : ¬ XR 289 q) : KD S1 q 9 ∧ pI S1 290 q = nI 0 ∧ pR S1 289 q = some (gE G) := by
  obtain ⟨h1, h2, h3⟩ := h
  have hq := hx q h1.1
  exact ⟨hx.kd h1, (hq.2.2.2.1 290 (fun z => by omega)).trans h2, (hq.2.2.2.2.1 289 n).trans h3⟩
set_option maxRecDepth 100000 in
set_option maxHeartbeats 2000000 in
theorem c_Thumbreel_init (hl : l.stackTraces = false) (kt : KD S t 7) :
    MT l G S yX7_init cX7_init 1 none (rm4 12 200) [va_rf (some t)] (fun v S' => v = none ∧ ∃ tg' W', CL G S' tg' W' A0 t ∧ FrC tg S S' tg') (fun _ => False) := by
  refine MT_of (by decide +kernel) hl rfl (Nat.le_of_ble_eq_true rfl) (fun Z hC hzl hnm hT hQ => ?_)
  change J G Z S 0 0 0 [some (va_rf (some t))] []
  have hzs : (zl Z).stackTraces = false := by rw [hzl]; exact hl
  refine r_hge hC (fun hg => ?_)
  -- books
  refine r_aload_n hC dX7_init_0 rfl rfl ?_
  refine r_objInit hC q_103 q_104 q_105 dX7_init_1 (Nat.le_of_ble_eq_true rfl) (Nat.le_of_ble_eq_true rfl) ?_
  refine r_aload_n hC dX7_init_4 rfl rfl ?_
  refine r_new hC nw_X7_9 dX7_init_5 (Nat.le_of_ble_eq_true rfl) (Nat.le_of_ble_eq_true rfl) (fun q5 hq5 hg5 => ?_)
  refine r_dup hC dX7_init_8 rfl ?_
  refine r_cI (as := []) hC (c_listInit hzs kd_newO) cs_Jx4a65c_init_da8c8 q_108 q_109 rfl dX7_init_9 rfl rfl ⟨Nat.le_of_ble_eq_true rfl, Nat.le_of_ble_eq_true rfl⟩ (Nat.le_of_ble_eq_true rfl) ⟨Nat.le_of_ble_eq_true rfl, Nat.le_of_ble_eq_true rfl⟩ (fun v9 S9 p9 => ?_) (fun _ x => x.elim)
  obtain ⟨rfl, e9⟩ := p9
  rw [e9]
  refine r_putFR hC hnm fl_X7_12 rfl dX7_init_12 (kd_sO kt hq5) ?_
  obtain ⟨T0, eT0⟩ : ∃ z, z = sR (sR (sI (sO S q5 9) 288 q5 0) 289 q5 (some (gE G))) 224 t (some q5) := ⟨_, rfl⟩
  rw [← eT0]
  have k0 : KD T0 t 7 := by rw [eT0]; exact kd_sO kt hq5
  have l0 : KD T0 q5 9 ∧ pI T0 290 q5 = nI 0 ∧ pR T0 289 q5 = some (gE G) := by rw [eT0]; exact lList hq5 (by decide)
  have r0 : pR T0 224 t = some q5 := by rw [eT0]; exact R_s _ 224 t _
  have x0' : Ex S T0 (fun f y => y = t ∧ 231 ≤ f ∧ f < 256) (fun f y => y = t ∧ 224 ≤ f ∧ f < 256) x0 x0 := by
    rw [eT0]
    refine Ex.tR ?_ (Or.inl ⟨rfl, by decide, by decide⟩)
    refine Ex.tR ?_ (Or.inr hq5)
    refine Ex.tI ?_ (Or.inr hq5)
    exact Ex.newO hq5
  -- orders
  refine r_aload_n hC dX7_init_15 rfl rfl ?_
  refine r_new hC nw_X7_9 dX7_init_16 (Nat.le_of_ble_eq_true rfl) (Nat.le_of_ble_eq_true rfl) (fun q16 hq16 hg16 => ?_)
  refine r_dup hC dX7_init_19 rfl ?_
  refine r_cI (as := []) hC (c_listInit hzs kd_newO) cs_Jx4a65c_init_da8c8 q_108 q_109 rfl dX7_init_20 rfl rfl ⟨Nat.le_of_ble_eq_true rfl, Nat.le_of_ble_eq_true rfl⟩ (Nat.le_of_ble_eq_true rfl) ⟨Nat.le_of_ble_eq_true rfl, Nat.le_of_ble_eq_true rfl⟩ (fun v20 S20 p20 => ?_) (fun _ x => x.elim)
  obtain ⟨rfl, e20⟩ := p20
  rw [e20]
  refine r_putFR hC hnm fl_X7_16 rfl dX7_init_23 (kd_sO k0 hq16) ?_
  obtain ⟨T1, eT1⟩ : ∃ z, z = sR (sR (sI (sO T0 q16 9) 288 q16 0) 289 q16 (some (gE G))) 225 t (some q16) := ⟨_, rfl⟩
  rw [← eT1]
  have k1 : KD T1 t 7 := by rw [eT1]; exact kd_sO k0 hq16
  have l1 : KD T1 q16 9 ∧ pI T1 290 q16 = nI 0 ∧ pR T1 289 q16 = some (gE G) := by rw [eT1]; exact lList hq16 (by decide)
  have r1 : pR T1 225 t = some q16 := by rw [eT1]; exact R_s _ 225 t _
  have x1 : Ex T0 T1 (fun f y => y = t ∧ 231 ≤ f ∧ f < 256) (fun f y => y = t ∧ f = 225) x0 x0 := by rw [eT1]; exact eList (k := 0) k0 hq16
  -- sheets
  refine r_aload_n hC dX7_init_26 rfl rfl ?_
  refine r_new hC nw_X7_9 dX7_init_27 (Nat.le_of_ble_eq_true rfl) (Nat.le_of_ble_eq_true rfl) (fun q27 hq27 hg27 => ?_)
  refine r_dup hC dX7_init_30 rfl ?_
  refine r_cI (as := []) hC (c_listInit hzs kd_newO) cs_Jx4a65c_init_da8c8 q_108 q_109 rfl dX7_init_31 rfl rfl ⟨Nat.le_of_ble_eq_true rfl, Nat.le_of_ble_eq_true rfl⟩ (Nat.le_of_ble_eq_true rfl) ⟨Nat.le_of_ble_eq_true rfl, Nat.le_of_ble_eq_true rfl⟩ (fun v31 S31 p31 => ?_) (fun _ x => x.elim)
  obtain ⟨rfl, e31⟩ := p31
  rw [e31]
  refine r_putFR hC hnm fl_X7_19 rfl dX7_init_34 (kd_sO k1 hq27) ?_
  obtain ⟨T2, eT2⟩ : ∃ z, z = sR (sR (sI (sO T1 q27 9) 288 q27 0) 289 q27 (some (gE G))) 226 t (some q27) := ⟨_, rfl⟩
  rw [← eT2]
  have k2 : KD T2 t 7 := by rw [eT2]; exact kd_sO k1 hq27
  have l2 : KD T2 q27 9 ∧ pI T2 290 q27 = nI 0 ∧ pR T2 289 q27 = some (gE G) := by rw [eT2]; exact lList hq27 (by decide)
  have r2 : pR T2 226 t = some q27 := by rw [eT2]; exact R_s _ 226 t _
  have xx2 : Ex T1 T2 (fun f y => y = t ∧ 231 ≤ f ∧ f < 256) (fun f y => y = t ∧ f = 226) x0 x0 := by rw [eT2]; exact eList (k := 1) k1 hq27
  -- turns
  refine r_aload_n hC dX7_init_37 rfl rfl ?_
  refine r_iconst (v := nI 5) hC dX7_init_38 (by decide) ?_
  refine r_newI hC q_157 (rfl) (by first | decide | omega) dX7_init_39 (Nat.le_of_ble_eq_true rfl) (Nat.le_of_ble_eq_true rfl) (fun q39 hq39 hg39 => ?_)
  refine r_putFR hC hnm fl_X7_22 rfl dX7_init_41 (kd_sW k2 hq39) ?_
  obtain ⟨T3, eT3⟩ : ∃ z, z = sR (sW T2 q39 10 5) 227 t (some q39) := ⟨_, rfl⟩
  rw [← eT3]
  have k3 : KD T3 t 7 := by rw [eT3]; exact kd_sW (m := 5) k2 hq39
  have u3 : KD T3 q39 10 ∧ pN T3 q39 = 5 := by rw [eT3]; exact ⟨kd_newW (m := 5), W_N T2 q39 10 5⟩
  have r3 : pR T3 227 t = some q39 := by rw [eT3]; exact R_s _ 227 t _
  have x3 : Ex T2 T3 (fun f y => y = t ∧ 231 ≤ f ∧ f < 256) (fun f y => y = t ∧ f = 227) x0 x0 := by rw [eT3]; exact Ex.tR (Ex.newW hq39) (Or.inl ⟨rfl, rfl⟩)
  -- dullness
  refine r_aload_n hC dX7_init_44 rfl rfl ?_
  refine r_iconst (v := nI 2) hC dX7_init_45 (by decide) ?_
  refine r_newI hC q_157 (rfl) (by first | decide | omega) dX7_init_46 (Nat.le_of_ble_eq_true rfl) (Nat.le_of_ble_eq_true rfl) (fun q46 hq46 hg46 => ?_)
  refine r_putFR hC hnm fl_X7_26 rfl dX7_init_48 (kd_sW k3 hq46) ?_
  obtain ⟨T4, eT4⟩ : ∃ z, z = sR (sW T3 q46 10 2) 228 t (some q46) := ⟨_, rfl⟩
  rw [← eT4]
  have k4 : KD T4 t 7 := by rw [eT4]; exact kd_sW (m := 2) k3 hq46
  have u4 : KD T4 q46 10 ∧ pN T4 q46 = 2 ∧ pA T4 q46 = fun _ => 0 := by rw [eT4]; exact ⟨kd_newW (m := 2), W_N T3 q46 10 2, W_A T3 q46 10 2⟩
  have r4 : pR T4 228 t = some q46 := by rw [eT4]; exact R_s _ 228 t _
  have x4 : Ex T3 T4 (fun f y => y = t ∧ 231 ≤ f ∧ f < 256) (fun f y => y = t ∧ f = 228) x0 x0 := by rw [eT4]; exact Ex.tR (Ex.newW hq46) (Or.inl ⟨rfl, rfl⟩)
  -- piles
  refine r_aload_n hC dX7_init_51 rfl rfl ?_
  refine r_new hC nw_X7_29 dX7_init_52 (Nat.le_of_ble_eq_true rfl) (Nat.le_of_ble_eq_true rfl) (fun q52 hq52 hg52 => ?_)
  refine r_dup hC dX7_init_55 rfl ?_
  refine r_cIN (as := []) hC (c_Piles_init hzs kd_newO) cs_X5_init q_134 q_135 rfl dX7_init_56 rfl rfl ⟨Nat.le_of_ble_eq_true rfl, Nat.le_of_ble_eq_true rfl⟩ (Nat.le_of_ble_eq_true rfl) ⟨Nat.le_of_ble_eq_true rfl, Nat.le_of_ble_eq_true rfl⟩ (fun v56 S56 p56 => ?_) (fun _ x => x.elim)
  obtain ⟨rfl, ac, ah, nac, nah, hpi, hex5⟩ := p56
  have nac' := nin_W nac
  have nah' := nin_W nah
  have x5a : Ex T4 S56 x2 x2 x0 x0 := Ex.trM (Ex.newO hq52) hex5 (fun f y hy e => hq52 (e ▸ hy)) (fun f y hy e => hq52 (e ▸ hy)) (fun _ _ h => h) (fun _ _ h => h)
  refine r_putFR hC hnm fl_X7_32 rfl dX7_init_59 (x5a.kd k4) ?_
  obtain ⟨T5, eT5⟩ : ∃ z, z = sR S56 229 t (some q52) := ⟨_, rfl⟩
  rw [← eT5]
  have k5 : KD T5 t 7 := by rw [eT5]; exact x5a.kd k4
  have r5 : pR T5 229 t = some q52 := by rw [eT5]; exact R_s _ 229 t _
  have x5 : Ex T4 T5 (fun f y => y = t ∧ 231 ≤ f ∧ f < 256) (fun f y => y = t ∧ f = 229) x0 x0 := by
    rw [eT5]
    exact Ex.tR (x5a.mono (fun _ _ z => z.elim) (fun _ _ z => z.elim) (fun _ z => z) (fun _ z => z)) (Or.inl ⟨rfl, rfl⟩)
  have p5 : isPi T5 q52 ac ah := by
    rw [eT5]
    obtain ⟨p1, p2, p3, p4⟩ := hpi
    exact ⟨p1, (R_f S56 _ _ _ (by decide)).trans p2, (R_f S56 _ _ _ (by decide)).trans p3, p4⟩
  -- folding
  refine r_aload_n hC dX7_init_62 rfl rfl ?_
  refine r_new hC nw_X7_36 dX7_init_63 (Nat.le_of_ble_eq_true rfl) (Nat.le_of_ble_eq_true rfl) (fun q63 hq63 hg63 => ?_)
  refine r_dup hC dX7_init_66 rfl ?_
  refine r_iconst (v := nI 1) hC dX7_init_67 (by decide) ?_
  refine r_iconst (v := nI 1) hC dX7_init_68 (by decide) ?_
  refine r_iconst (v := nI 2) hC dX7_init_69 (by decide) ?_
  refine r_cIN (as := [.int (nI 1), .int (nI 1), .int (nI 2)]) hC (c_Folding_init hzs kd_newO (f := folds3 1 1 2) (by unfold okf; decide)) cs_X2_init q_160 q_161 rfl dX7_init_70 rfl rfl ⟨Nat.le_of_ble_eq_true rfl, Nat.le_of_ble_eq_true rfl⟩ (Nat.le_of_ble_eq_true rfl) ⟨Nat.le_of_ble_eq_true rfl, Nat.le_of_ble_eq_true rfl⟩ (fun v70 S70 p70 => ?_) (fun _ x => x.elim)
  obtain ⟨rfl, fa, nfa, hfd, hex6⟩ := p70
  have nfa' := nin_W nfa
  refine r_hge hC (fun hgE => ?_)
  have x6a : Ex T5 S70 x2 x2 x0 x0 := Ex.trM (Ex.newO hq63) hex6 (fun f y hy e => hq63 (e ▸ hy)) (fun f y hy e => hq63 (e ▸ hy)) (fun _ _ h => h) (fun _ _ h => h)
  refine r_putR hC fl_X7_41 dX7_init_73 (x6a.kd k5) ?_
  obtain ⟨T6, eT6⟩ : ∃ z, z = sR S70 230 t (some q63) := ⟨_, rfl⟩
  rw [← eT6]
  have k6 : KD T6 t 7 := by rw [eT6]; exact x6a.kd k5
  have r6 : pR T6 230 t = some q63 := by rw [eT6]; exact R_s _ 230 t _
  have x6 : Ex T5 T6 (fun f y => y = t ∧ 231 ≤ f ∧ f < 256) (fun f y => y = t ∧ f = 230) x0 x0 := by
    rw [eT6]
    exact Ex.tR (x6a.mono (fun _ _ z => z.elim) (fun _ _ z => z.elim) (fun _ z => z) (fun _ z => z)) (Or.inl ⟨rfl, rfl⟩)
  have f6 : isFd T6 q63 fa (folds3 1 1 2) := by
    rw [eT6]
    obtain ⟨p1, p2, p3⟩ := hfd
    exact ⟨p1, (R_f S70 _ _ _ (by decide)).trans p2, p3⟩
  -- numbers
  refine r_aload_n hC dX7_init_76 rfl rfl ?_
  refine r_iconst (v := nI 2) hC dX7_init_77 (by decide) ?_
  refine r_putI hC fl_X7_45 rfl (by decide) dX7_init_78 (k6) (fun h => absurd h (by decide)) ?_
  refine r_aload_n hC dX7_init_81 rfl rfl ?_
  refine r_iconst (v := nI 0) hC dX7_init_82 (by decide) ?_
  refine r_putI hC fl_X7_49 rfl (by decide) dX7_init_83 (k6) (fun h => absurd h (by decide)) ?_
  refine r_vret hC hQ rfl dX7_init_86 (Nat.le_of_ble_eq_true rfl) (Nat.le_of_ble_eq_true rfl) ?_
  obtain ⟨T7, eT7⟩ : ∃ z, z = sI (sI T6 231 t (nI 2)) 232 t (nI 0) := ⟨_, rfl⟩
  rw [← eT7]
  have x7 : Ex T6 T7 (fun f y => y = t ∧ 231 ≤ f ∧ f < 256) x2 x0 x0 := by rw [eT7]; exact Ex.tI (Ex.putI ⟨rfl, by decide, by decide⟩) (Or.inl ⟨rfl, by decide, by decide⟩)
  -- all up to the end
  have y6 : Ex T6 T7 (fun f y => y = t ∧ 231 ≤ f ∧ f < 256) (fun f y => y = t ∧ 231 ≤ f ∧ f < 256) x0 x0 := x7.mono (fun _ _ z => z) (fun _ _ z => z.elim) (fun _ z => z) (fun _ z => z)
  have y5 : Ex T5 T7 (fun f y => y = t ∧ 231 ≤ f ∧ f < 256) (fun f y => y = t ∧ 230 ≤ f ∧ f < 256) x0 x0 := (x6.mono (fun _ _ z => z) (fun _ _ z => ⟨z.1, by omega⟩) (fun _ z => z) (fun _ z => z)).trM y6 (fun _ _ _ z => z) (fun _ _ _ z => ⟨z.1, by omega⟩) (fun _ _ z => z) (fun _ _ z => z)
  have y4 : Ex T4 T7 (fun f y => y = t ∧ 231 ≤ f ∧ f < 256) (fun f y => y = t ∧ 229 ≤ f ∧ f < 256) x0 x0 := (x5.mono (fun _ _ z => z) (fun _ _ z => ⟨z.1, by omega⟩) (fun _ z => z) (fun _ z => z)).trM y5 (fun _ _ _ z => z) (fun _ _ _ z => ⟨z.1, by omega⟩) (fun _ _ z => z) (fun _ _ z => z)
  have y3 : Ex T3 T7 (fun f y => y = t ∧ 231 ≤ f ∧ f < 256) (fun f y => y = t ∧ 228 ≤ f ∧ f < 256) x0 x0 := (x4.mono (fun _ _ z => z) (fun _ _ z => ⟨z.1, by omega⟩) (fun _ z => z) (fun _ z => z)).trM y4 (fun _ _ _ z => z) (fun _ _ _ z => ⟨z.1, by omega⟩) (fun _ _ z => z) (fun _ _ z => z)
  have y2 : Ex T2 T7 (fun f y => y = t ∧ 231 ≤ f ∧ f < 256) (fun f y => y = t ∧ 227 ≤ f ∧ f < 256) x0 x0 := (x3.mono (fun _ _ z => z) (fun _ _ z => ⟨z.1, by omega⟩) (fun _ z => z) (fun _ z => z)).trM y3 (fun _ _ _ z => z) (fun _ _ _ z => ⟨z.1, by omega⟩) (fun _ _ z => z) (fun _ _ z => z)
  have y1 : Ex T1 T7 (fun f y => y = t ∧ 231 ≤ f ∧ f < 256) (fun f y => y = t ∧ 226 ≤ f ∧ f < 256) x0 x0 := (xx2.mono (fun _ _ z => z) (fun _ _ z => ⟨z.1, by omega⟩) (fun _ z => z) (fun _ z => z)).trM y2 (fun _ _ _ z => z) (fun _ _ _ z => ⟨z.1, by omega⟩) (fun _ _ z => z) (fun _ _ z => z)
  have y0 : Ex T0 T7 (fun f y => y = t ∧ 231 ≤ f ∧ f < 256) (fun f y => y = t ∧ 225 ≤ f ∧ f < 256) x0 x0 := (x1.mono (fun _ _ z => z) (fun _ _ z => ⟨z.1, by omega⟩) (fun _ z => z) (fun _ z => z)).trM y1 (fun _ _ _ z => z) (fun _ _ _ z => ⟨z.1, by omega⟩) (fun _ _ z => z) (fun _ _ z => z)
  have yS : Ex S T7 (fun f y => y = t ∧ 231 ≤ f ∧ f < 256) (fun f y => y = t ∧ 224 ≤ f ∧ f < 256) x0 x0 := x0'.trM y0 (fun _ _ _ z => z) (fun _ _ _ z => ⟨z.1, by omega⟩) (fun _ _ z => z) (fun _ _ z => z)
  -- apart
  have n1 : q16 ∉ pL S ∧ q16 ≠ q5 := ⟨fun z => hq16 (x0' _ z).1, fun z => hq16 (z ▸ l0.1.1)⟩
  have n2 : q27 ∉ pL S ∧ q27 ≠ q5 ∧ q27 ≠ q16 := ⟨fun z => hq27 (x1 _ (x0' _ z).1).1, fun z => hq27 (z ▸ (x1 _ l0.1.1).1), fun z => hq27 (z ▸ l1.1.1)⟩
  have m2 : ∀ y, y ∈ pL S → y ∈ pL T2 := fun y hy => (xx2 _ (x1 _ (x0' _ hy).1).1).1
  have n3 : q39 ∉ pL S := fun z => hq39 (m2 _ z)
  have m3 : ∀ y, y ∈ pL S → y ∈ pL T3 := fun y hy => (x3 _ (m2 y hy)).1
  have n4 : q46 ∉ pL S ∧ q46 ≠ q39 := ⟨fun z => hq46 (m3 _ z), fun z => hq46 (z ▸ u3.1.1)⟩
  have m4 : ∀ y, y ∈ pL S → y ∈ pL T4 := fun y hy => (x4 _ (m3 y hy)).1
  have u3' : q39 ∈ pL T4 := (x4 _ u3.1.1).1
  have n5 : ac ∉ pL S ∧ ac ≠ q39 ∧ ac ≠ q46 := ⟨fun z => nac'.1 (m4 _ z), fun z => nac'.1 (z ▸ u3'), fun z => nac'.1 (z ▸ u4.1.1)⟩
  have n6 : ah ∉ pL S ∧ ah ≠ q39 ∧ ah ≠ q46 ∧ ah ≠ ac := ⟨fun z => nah'.1 (m4 _ z), fun z => nah'.1 (z ▸ u3'), fun z => nah'.1 (z ▸ u4.1.1), fun z => hpi.2.2.2.2.2.2.2 z.symm⟩
  have m5 : ∀ y, y ∈ pL T4 → y ∈ pL T5 := fun y hy => (x5 _ hy).1
  have n7 : fa ∉ pL S ∧ fa ≠ q39 ∧ fa ≠ q46 ∧ fa ≠ ac ∧ fa ≠ ah := ⟨fun z => nfa'.1 (m5 _ (m4 _ z)), fun z => nfa'.1 (z ▸ m5 _ u3'), fun z => nfa'.1 (z ▸ m5 _ u4.1.1), fun z => nfa'.1 (z ▸ p5.2.2.2.1.1), fun z => nfa'.1 (z ▸ p5.2.2.2.2.2.1.1)⟩
  obtain ⟨g, eg⟩ : ∃ z : Nat → Nat, z = fun y => if pK T7 y = 9 then (if y = q5 then 11 else if y = q16 then 12 else 13) else if y = q39 then 1 else if y = q46 then 2 else if y = ac then 3 else if y = ah then 4 else 5 := ⟨_, rfl⟩
  have kk : ∀ a k, KD T7 a k → pK T7 a = k := fun a k h => h.2
  have L0 := tList l0 y0 (fun z => by omega)
  have L1 := tList l1 y1 (fun z => by omega)
  have L2 := tList l2 y2 (fun z => by omega)
  have K3 := y3.kd u3.1
  have K4 := y4.kd u4.1
  have P5 : isPi T7 q52 ac ah := p5.ex2 y5 (fun f y h z => by omega)
  have F6 : isFd T7 q63 fa (folds3 1 1 2) := f6.ex y6 (fun z => by omega) (fun z => z)
  have hg7 : gE G ∉ pL T7 := by
    have : pL T7 = pL S70 := by rw [eT7, eT6]; rfl
    rw [this]
    exact hgE
  have tg0 : tgx S tg g q5 = 11 := by
    rw [tgx_n hq5, eg]
    show (if pK T7 q5 = 9 then _ else _) = 11
    rw [if_pos L0.1.2, if_pos rfl]
  have tg1 : tgx S tg g q16 = 12 := by
    rw [tgx_n n1.1, eg]
    show (if pK T7 q16 = 9 then _ else _) = 12
    rw [if_pos L1.1.2, if_neg n1.2, if_pos rfl]
  have tg2 : tgx S tg g q27 = 13 := by
    rw [tgx_n n2.1, eg]
    show (if pK T7 q27 = 9 then _ else _) = 13
    rw [if_pos L2.1.2, if_neg n2.2.1, if_neg n2.2.2]
  have tg3 : tgx S tg g q39 = 1 := by
    rw [tgx_n n3, eg]
    show (if pK T7 q39 = 9 then _ else _) = 1
    rw [if_neg (by rw [K3.2]; decide), if_pos rfl]
  have tg4 : tgx S tg g q46 = 2 := by
    rw [tgx_n n4.1, eg]
    show (if pK T7 q46 = 9 then _ else _) = 2
    rw [if_neg (by rw [K4.2]; decide), if_neg n4.2, if_pos rfl]
  have tg5 : tgx S tg g ac = 3 := by
    rw [tgx_n n5.1, eg]
    show (if pK T7 ac = 9 then _ else _) = 3
    rw [if_neg (by rw [P5.2.2.2.1.2]; decide), if_neg n5.2.1, if_neg n5.2.2, if_pos rfl]
  have tg6 : tgx S tg g ah = 4 := by
    rw [tgx_n n6.1, eg]
    show (if pK T7 ah = 9 then _ else _) = 4
    rw [if_neg (by rw [P5.2.2.2.2.2.1.2]; decide), if_neg n6.2.1, if_neg n6.2.2.1, if_neg n6.2.2.2, if_pos rfl]
  have tg7 : tgx S tg g fa = 5 := by
    rw [tgx_n n7.1, eg]
    show (if pK T7 fa = 9 then _ else _) = 5
    rw [if_neg (by rw [F6.2.2.1.2]; decide), if_neg n7.2.1, if_neg n7.2.2.1, if_neg n7.2.2.2.1, if_neg n7.2.2.2.2]
  have et : ∀ {T : PS} {XR : Nat → Nat → Prop}, KD T t 7 → Ex T T7 (fun f y => y = t ∧ 231 ≤ f ∧ f < 256) XR x0 x0 → ∀ f v, ¬ XR f t → pR T f t = some v → pR T7 f t = some v := fun k hx f v h1 h2 => ((hx t k.1).2.2.2.2.1 f h1).trans h2
  refine ⟨rfl, tgx S tg g, fun r i _ => if r = 0 then (if i = 0 then q5 else if i = 1 then q16 else if i = 2 then q27 else if i = 3 then q39 else if i = 4 then q46 else if i = 5 then q52 else if i = 6 then ac else if i = 7 then ah else if i = 8 then q63 else fa) else 0, ⟨⟨VU_A0, ?_, ?_, ?_, ?_⟩, VF_A0⟩, ?_⟩
  · exact ⟨fList L0, tg0, fLA L0.2.2 hg7, fun i hi => absurd hi (Nat.not_lt_zero i)⟩
  · exact ⟨fList L1, tg1, fLA L1.2.2 hg7, fun i hi => absurd hi (Nat.not_lt_zero i)⟩
  · exact ⟨fList L2, tg2, fLA L2.2.2 hg7, fun i hi => absurd hi (Nat.not_lt_zero i)⟩
  · refine ⟨yS.kd kt, et k0 y0 _ _ (fun z => by omega) r0, et k1 y1 _ _ (fun z => by omega) r1, et k2 y2 _ _ (fun z => by omega) r2, et k3 y3 _ _ (fun z => by omega) r3, et k4 y4 _ _ (fun z => by omega) r4, et k5 y5 _ _ (fun z => by omega) r5, et k6 y6 _ _ (fun z => by omega) r6, ?_, ?_, K3, (y3 _ u3.1.1).2.2.1.trans u3.2, tg3, K4, (y4 _ u4.1.1).2.2.1.trans u4.2.1, tg4, fun k hk => ?_, P5, tg5, tg6, ?_, tg7⟩
    · rw [eT7, I_f _ _ _ _ (by decide)]
      exact I_s _ 231 t _
    · rw [eT7]
      exact I_s _ 232 t _
    · show pA T7 q46 k = nI (aDl A0 k)
      rw [(y4 _ u4.1.1).2.2.2.2.2.1 (fun z => z), u4.2.2]
      rfl
    · obtain ⟨f1, f2, f3, f4, f5, f6⟩ := F6
      refine ⟨f1, f2, f3, f4, fun i hi => ?_, VU_A0.2.2.2.2.2.2.2.1⟩
      refine (f5 i hi).trans ?_
      rcases (show i = 0 ∨ i = 1 ∨ i = 2 by omega) with rfl | rfl | rfl <;> rfl
  · exact FrC.of yS tgx_o (fun f y z => by omega) (fun f y z => by omega) (fun _ z => z.elim)
end InitA

