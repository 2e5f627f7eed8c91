/-! ===== the law's loop, and its start ===== -/
section LoopA
variable {G : GG} {Z : ZZ} {S S' : PS} {A : AS} {t md out b L i k n : Nat} {xs : Nat → Int32} {o5 o6 : Option Value} {tg tg' : TG} {W : WT}
theorem CL.frMt (h : CL G S tg W A t) (hf : FrM tg S S') (ht : ∀ y, y ∈ pL S → tg' y = tg y) (hg : gE G ∉ pL S') : CL G S' tg' W A t := by
  obtain ⟨⟨hv, hb, ho, hs, hr⟩, hF⟩ := h
  exact ⟨⟨hv, hb.ex hv hf ht hg (fun f y h z => by omega) (fun _ _ _ z => z) (fun y h1 h2 z => by have z' : tg y = 0 := z; omega) (fun z => by omega) (fun z => z) (fun _ _ _ z => z),
    ho.ex hv hs.sc hf ht hg (fun f y h1 h2 z => by omega) (fun _ _ _ _ z => z) (fun _ _ _ z => z) (fun _ _ z => by omega) (fun _ _ z => z),
    hs.ex hv ho.lv hf ht hg (fun f y h z => by omega) (fun _ _ _ z => z) (fun y h z => by have z' : tg y = 0 := z; omega) (fun _ _ _ z => z) (fun z => by omega) (fun z => z),
    hr.ex hf ht (fun f y h z => by omega) (fun _ _ _ z => z) (fun y h z => by have z' : tg y = 0 := z; omega)⟩, hF⟩
theorem FrM.ex0 (h : Ex S S' x2 x2 x0 x0) : FrM tg S S' := h.mono (fun _ _ z => z.elim) (fun _ _ z => z) (fun _ z => z.elim) (fun _ z => z)
theorem FrC.ex0 (h : Ex S S' x2 x2 x0 x0) : FrC tg S S' tg := FrC.of h (fun _ _ => rfl) (fun _ _ z => z.elim) (fun _ _ z => z.elim) (fun _ z => z.elim)
set_option maxRecDepth 100000 in
set_option maxHeartbeats 1000000 in
/-- one call of the script -/
theorem law_step (hC : CX G Z RL cL_law 7 (some .boolean) rmL) (hzs : (zl Z).stackTraces = false) (hX : SC G Z b L xs) (hL3 : L ≤ 3072) (hi : i + 6 ≤ L) (hk : k + 440 ≤ 601024) (hn : n + 3600 ≤ 7293033) (hI : LI G S t md out A)
    (nxt : ∀ S' A' (o5 o6 : Option Value), LI G S' t md out A' → J G Z S' (k + 440) (n + 3600) 1642 [some (va_rf (some b)), some (va_rf (some t)), some (va_rf (some md)), some (va_rf (some out)), some (.int (nI i)), o5, o6] []) :
    J G Z S k n 33 [some (va_rf (some b)), some (va_rf (some t)), some (va_rf (some md)), some (va_rf (some out)), some (.int (nI i)), o5, o6] [] := by
  obtain ⟨m, hm, em⟩ := and31 (xs i)
  refine r_aload_n hC dL_law_33 rfl rfl ?_
  refine r_iload hC dL_law_34 rfl ?_
  refine r_scr (j := i) hC hX hL3 dL_law_36 (by first | rfl | rw [nI_add]) (by omega) ?_
  refine r_bipush (v := nI 31) hC dL_law_37 (by decide) ?_
  refine r_iand hC dL_law_39 ?_
  rw [em]
  by_cases h0 : m = 0
  · subst h0
    refine r_tabIn (off := 116) (tgt := 156) hC dL_law_40 (by decide) (by decide) (by decide) (by decide) ?_
    exact a_addBook hC hzs hX hL3 hi hk hn hI nxt
  by_cases h1 : m = 1
  · subst h1
    refine r_tabIn (off := 160) (tgt := 200) hC dL_law_40 (by decide) (by decide) (by decide) (by decide) ?_
    exact a_draw hC hzs hX hL3 hi hk hn hI nxt
  by_cases h2 : m = 2
  · subst h2
    refine r_tabIn (off := 264) (tgt := 304) hC dL_law_40 (by decide) (by decide) (by decide) (by decide) ?_
    exact a_erase hC hzs hX hL3 hi hk hn hI nxt
  by_cases h3 : m = 3
  · subst h3
    refine r_tabIn (off := 332) (tgt := 372) hC dL_law_40 (by decide) (by decide) (by decide) (by decide) ?_
    exact a_move hC hzs hX hL3 hi hk hn hI nxt
  by_cases h4 : m = 4
  · subst h4
    refine r_tabIn (off := 412) (tgt := 452) hC dL_law_40 (by decide) (by decide) (by decide) (by decide) ?_
    exact a_frames hC hzs hX hL3 hi hk hn hI nxt
  by_cases h5 : m = 5
  · subst h5
    refine r_tabIn (off := 468) (tgt := 508) hC dL_law_40 (by decide) (by decide) (by decide) (by decide) ?_
    exact a_frameAt hC hzs hX hL3 hi hk hn hI nxt
  by_cases h6 : m = 6
  · subst h6
    refine r_tabIn (off := 536) (tgt := 576) hC dL_law_40 (by decide) (by decide) (by decide) (by decide) ?_
    exact a_order hC hzs hX hL3 hi hk hn hI nxt
  by_cases h7 : m = 7
  · subst h7
    refine r_tabIn (off := 604) (tgt := 644) hC dL_law_40 (by decide) (by decide) (by decide) (by decide) ?_
    exact a_lacking hC hzs hX hL3 hi hk hn hI nxt
  by_cases h8 : m = 8
  · subst h8
    refine r_tabIn (off := 660) (tgt := 700) hC dL_law_40 (by decide) (by decide) (by decide) (by decide) ?_
    exact a_waits hC hzs hX hL3 hi hk hn hI nxt
  by_cases h9 : m = 9
  · subst h9
    refine r_tabIn (off := 716) (tgt := 756) hC dL_law_40 (by decide) (by decide) (by decide) (by decide) ?_
    exact a_setFolds hC hzs hX hL3 hi hk hn hI nxt
  by_cases h10 : m = 10
  · subst h10
    refine r_tabIn (off := 776) (tgt := 816) hC dL_law_40 (by decide) (by decide) (by decide) (by decide) ?_
    exact a_cellOf hC hzs hX hL3 hi hk hn hI nxt
  by_cases h11 : m = 11
  · subst h11
    refine r_tabIn (off := 832) (tgt := 872) hC dL_law_40 (by decide) (by decide) (by decide) (by decide) ?_
    exact a_placeOf hC hzs hX hL3 hi hk hn hI nxt
  by_cases h12 : m = 12
  · subst h12
    refine r_tabIn (off := 888) (tgt := 928) hC dL_law_40 (by decide) (by decide) (by decide) (by decide) ?_
    exact a_print hC hzs hX hL3 hi hk hn hI nxt
  by_cases h13 : m = 13
  · subst h13
    refine r_tabIn (off := 944) (tgt := 984) hC dL_law_40 (by decide) (by decide) (by decide) (by decide) ?_
    exact a_waiting hC hzs hX hL3 hi hk hn hI nxt
  by_cases h14 : m = 14
  · subst h14
    refine r_tabIn (off := 957) (tgt := 997) hC dL_law_40 (by decide) (by decide) (by decide) (by decide) ?_
    exact a_onSheet hC hzs hX hL3 hi hk hn hI nxt
  by_cases h15 : m = 15
  · subst h15
    refine r_tabIn (off := 1025) (tgt := 1065) hC dL_law_40 (by decide) (by decide) (by decide) (by decide) ?_
    exact a_cut hC hzs hX hL3 hi hk hn hI nxt
  by_cases h16 : m = 16
  · subst h16
    refine r_tabIn (off := 1081) (tgt := 1121) hC dL_law_40 (by decide) (by decide) (by decide) (by decide) ?_
    exact a_discard hC hzs hX hL3 hi hk hn hI nxt
  by_cases h17 : m = 17
  · subst h17
    refine r_tabIn (off := 1094) (tgt := 1134) hC dL_law_40 (by decide) (by decide) (by decide) (by decide) ?_
    exact a_sharpen hC hzs hX hL3 hi hk hn hI nxt
  by_cases h18 : m = 18
  · subst h18
    refine r_tabIn (off := 1150) (tgt := 1190) hC dL_law_40 (by decide) (by decide) (by decide) (by decide) ?_
    exact a_setTolerance hC hzs hX hL3 hi hk hn hI nxt
  by_cases h19 : m = 19
  · subst h19
    refine r_tabIn (off := 1206) (tgt := 1246) hC dL_law_40 (by decide) (by decide) (by decide) (by decide) ?_
    exact a_bind hC hzs hX hL3 hi hk hn hI nxt
  by_cases h20 : m = 20
  · subst h20
    refine r_tabIn (off := 1274) (tgt := 1314) hC dL_law_40 (by decide) (by decide) (by decide) (by decide) ?_
    exact a_isBound hC hzs hX hL3 hi hk hn hI nxt
  by_cases h21 : m = 21
  · subst h21
    refine r_tabIn (off := 1349) (tgt := 1389) hC dL_law_40 (by decide) (by decide) (by decide) (by decide) ?_
    exact a_trim hC hzs hX hL3 hi hk hn hI nxt
  by_cases h22 : m = 22
  · subst h22
    refine r_tabIn (off := 1429) (tgt := 1469) hC dL_law_40 (by decide) (by decide) (by decide) (by decide) ?_
    exact a_leaf hC hzs hX hL3 hi hk hn hI nxt
  by_cases h23 : m = 23
  · subst h23
    refine r_tabIn (off := 1509) (tgt := 1549) hC dL_law_40 (by decide) (by decide) (by decide) (by decide) ?_
    exact a_leafByPiles hC hzs hX hL3 hi hk hn hI nxt
  by_cases h24 : m = 24
  · subst h24
    refine r_tabIn (off := 1589) (tgt := 1629) hC dL_law_40 (by decide) (by decide) (by decide) (by decide) ?_
    exact a_spoiled hC hzs hX hL3 hi hk hn hI nxt
  refine r_tabOut (tgt := 1642) hC dL_law_40 (Or.inr (by rw [nI_toInt (by omega)]; omega)) (by decide) ?_
  exact J.wide (by omega) (by omega) (nxt S A o5 o6 hI)
set_option maxRecDepth 100000 in
set_option maxHeartbeats 1000000 in
theorem law_loop (hC : CX G Z RL cL_law 7 (some .boolean) rmL) (hzs : (zl Z).stackTraces = false) (hX : SC G Z b L xs) (hL3 : L ≤ 3072)
    (fin : ∀ S k n L', k ≤ 601024 → n ≤ 7293033 → J G Z S k n 1648 L' []) :
    ∀ (d q k n : Nat) (S : PS) (A : AS) (o5 o6 : Option Value) (i : Nat), i = 6 * q → q + d = 512 → k + 440 * d ≤ 601024 → n + 3600 * d ≤ 7293033 → LI G S t md out A → J G Z S k n 23 [some (va_rf (some b)), some (va_rf (some t)), some (va_rf (some md)), some (va_rf (some out)), some (.int (nI i)), o5, o6] [] := by
  intro d
  induction d with
  | zero =>
    intro q k n S A o5 o6 i hq hd hk hn hI
    refine r_iload hC dL_law_23 rfl ?_
    refine r_aload_n hC dL_law_25 rfl rfl ?_
    refine r_slen hC hX dL_law_26 ?_
    refine r_bipush (v := nI 6) hC dL_law_27 (by decide) ?_
    refine r_isub hC dL_law_29 ?_
    refine r_icgt (tgt := 1648) hC dL_law_30 (by decide) (fun h30 => ?_) (fun h30 => ?_)
    · exact fin _ _ _ _ (by omega) (by omega)
    · have := len6 hL3 (by omega) h30
      omega
  | succ d ih =>
    intro q k n S A o5 o6 i hq hd hk hn hI
    refine r_iload hC dL_law_23 rfl ?_
    refine r_aload_n hC dL_law_25 rfl rfl ?_
    refine r_slen hC hX dL_law_26 ?_
    refine r_bipush (v := nI 6) hC dL_law_27 (by decide) ?_
    refine r_isub hC dL_law_29 ?_
    refine r_icgt (tgt := 1648) hC dL_law_30 (by decide) (fun h30 => ?_) (fun h30 => ?_)
    · exact fin _ _ _ _ (by omega) (by omega)
    · have hi := len6 hL3 (by omega) h30
      refine law_step hC hzs hX hL3 hi (by omega) (by omega) hI (fun S' A' o5' o6' hI' => ?_)
      refine r_iinc hC dL_law_1642 rfl (show nI i + nI 6 = nI (i + 6) by rw [nI_add]) ?_
      refine r_goto (tgt := 23) hC dL_law_1645 (by decide) ?_
      exact ih (q + 1) _ _ S' A' o5' o6' (i + 6) (by omega) (by omega) (by omega) (by omega) hI'
def PS0 : PS := ([], fun _ => 0, fun _ _ => 0, fun _ _ => none, fun _ => 0, fun _ _ => 0, fun _ _ => none, fun _ _ => 0)
theorem HW_0 (G : GG) (H : Heap) : HW G PS0 H := ⟨fun k q h => by simp [va_pl, PS0, pL] at h, fun i j p q h => by simp [va_pl, PS0, pL] at h, fun k q h => by simp [va_pl, PS0, pL] at h⟩
set_option maxRecDepth 100000 in
set_option maxHeartbeats 1000000 in
theorem law_J (hC : CX G Z RL cL_law 7 (some .boolean) rmL) (hzs : (zl Z).stackTraces = false) (hX : SC G Z b L xs) (hL3 : L ≤ 3072)
    (fin : ∀ S k n L', k ≤ 601024 → n ≤ 7293033 → J G Z S k n 1648 L' []) : J G Z PS0 0 0 0 [some (va_rf (some b)), none, none, none, none, none, none] [] := by
  refine r_new hC nw_L_8 dL_law_0 (Nat.le_of_ble_eq_true rfl) (Nat.le_of_ble_eq_true rfl) (fun q0 hq0 hg0 => ?_)
  refine r_dup hC dL_law_3 rfl ?_
  refine r_cI (as := []) hC (c_Thumbreel_init (tg := fun _ => 0) hzs kd_newO) cs_X7_init q_100 q_101 rfl dL_law_4 rfl rfl ⟨Nat.le_of_ble_eq_true rfl, Nat.le_of_ble_eq_true rfl⟩ (Nat.le_of_ble_eq_true rfl) ⟨Nat.le_of_ble_eq_true rfl, Nat.le_of_ble_eq_true rfl⟩ (fun v4 S4 p4 => ?_) (fun _ x => x.elim)
  obtain ⟨rfl, tg1, W1, hCL1, -⟩ := p4
  refine r_astore_n hC dL_law_7 rfl (by decide) ?_
  refine r_new hC nw_L_91 dL_law_8 (Nat.le_of_ble_eq_true rfl) (Nat.le_of_ble_eq_true rfl) (fun q8 hq8 hg8 => ?_)
  refine r_hge hC (fun hg8 => ?_)
  have xO8 : Ex S4 (sO S4 q8 8) x2 x2 x0 x0 := Ex.newO hq8
  refine r_dup hC dL_law_11 rfl ?_
  refine r_cI (as := []) hC (m_init (tg := tg1) hzs kd_newO (fun k _ => if_pos rfl)) cs_X8_init q_916 q_917 rfl dL_law_12 rfl rfl ⟨Nat.le_of_ble_eq_true rfl, Nat.le_of_ble_eq_true rfl⟩ (Nat.le_of_ble_eq_true rfl) ⟨Nat.le_of_ble_eq_true rfl, Nat.le_of_ble_eq_true rfl⟩ (fun v12 S12 p12 => ?_) (fun _ x => x.elim)
  obtain ⟨rfl, V, N, R, T, hMM, hMC, hxT, hfM⟩ := p12
  refine r_hge hC (fun hg12 => ?_)
  have xT : Ex S4 T x2 x2 x0 x0 := Ex.trM xO8 hxT (fun f y hy e => hq8 (e.1 ▸ hy)) (fun f y hy e => hq8 (e.1 ▸ hy)) (fun _ _ h => h) (fun _ _ h => h)
  have ht8 : ∀ y, y ∈ pL S4 → tgx (sO S4 q8 8) tg1 (fun _ => 0) y = tg1 y := fun y hy => tgx_o _ (xO8 y hy).1
  have hfr : FrM tg1 S4 S12 := Ex.trM (FrM.ex0 xT) hfM (fun _ _ _ z => z) (fun _ _ _ z => z) (fun y hy z => by rw [ht8 y hy] at z; exact z) (fun _ _ z => z)
  have hCL2 := hCL1.frMt hfr ht8 hg12
  refine r_astore_n hC dL_law_15 rfl (by decide) ?_
  refine r_iconst (v := nI 1) hC dL_law_16 (by decide) ?_
  refine r_newJ hC q_1195 (rfl) (by first | decide | omega) dL_law_17 (Nat.le_of_ble_eq_true rfl) (Nat.le_of_ble_eq_true rfl) (fun q17 hq17 hg17 => ?_)
  refine r_hge hC (fun hg17 => ?_)
  have x17 : Ex S12 (sW S12 q17 14 1) x2 x2 x0 x0 := Ex.newW hq17
  have hCL3 : CL G (sW S12 q17 14 1) (tgx (sO S4 q8 8) tg1 (fun _ => 0)) W1 A0 q0 := ⟨hCL2.1.ex0 x17 hg17, hCL2.2⟩
  have hMM3 : MM (sW S12 q17 14 1) (tgx (sO S4 q8 8) tg1 (fun _ => 0)) q8 V N R := hMM.frC (FrC.ex0 x17)
  refine r_astore_n hC dL_law_19 rfl (by decide) ?_
  refine r_iconst (v := nI 0) hC dL_law_20 (by decide) ?_
  refine r_istore hC dL_law_21 (by decide) ?_
  exact law_loop hC hzs hX hL3 fin 512 0 _ _ _ A0 none none 0 rfl rfl (by dsimp only [rm4, rm3]; omega) (by dsimp only [rm4, rm3]; omega) ⟨_, _, _, _, _, hCL3, hMM3, hMC, kd_newW, W_N S12 q17 14 1⟩
end LoopA

