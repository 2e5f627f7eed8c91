/-! ===== all that are lacking are counted; the orders are sorted ===== -/
def allN (A : AS) (n : Nat) : Nat := sm (lackN A) n
theorem allN_le {A : AS} (h : VU A) {n : Nat} (hn : n ≤ aNo A) : allN A n ≤ n * 129 := sm_le _ n (fun i hi => lackN_le h (by omega))
section SortA
variable {l : Launch} {G : GG} {S S' : PS} {tg : TG} {W : WT} {A : AS} {t nl : Nat}
theorem CLn.ut (h : CLn G S tg W A t nl) (hg : gE G ∉ pL S) (g : Nat → Int32) : CLn G (sA S (wUt W) g) tg W A t nl ∧ FrC tg S (sA S (wUt W) g) tg := by
  obtain ⟨hv, hb, ho, hs, hr⟩ := h
  have hx : Ex S (sA S (wUt W) g) x2 x2 (fun y => y = wUt W) x0 := Ex.putA rfl
  obtain ⟨kt, r0, r1, r2, r3, r4, r5, r6, i1, i2, ku, nu, tu, kd, nd, td, hd, hp, tc, th, hf, tf⟩ := id hr
  refine ⟨⟨hv, hb.ex hv hx (fun _ _ => rfl) hg (fun _ _ _ z => z) (fun _ _ _ z => z) (fun y h1 h2 z => by rw [z] at h1; omega) (fun z => z) (fun z => z) (fun _ _ _ z => z),
    ho.ex hv hs.sc hx (fun _ _ => rfl) hg (fun _ _ _ _ z => z) (fun _ _ _ _ z => z) (fun _ _ _ z => z) (fun _ _ z => z) (fun _ _ z => z),
    hs.ex hv ho.lv hx (fun _ _ => rfl) hg (fun _ _ _ _ z => z) (fun _ _ _ z => z) (fun y h z => by rw [z] at h; omega) (fun _ _ _ z => z) (fun z => z) (fun z => z), ?_⟩,
    FrC.of hx (fun _ _ => rfl) (fun _ _ z => z.elim) (fun _ _ z => z.elim) (fun y z => by rw [z, tu]; decide)⟩
  exact hr.ex hx (fun _ _ => rfl) (fun _ _ _ z => z) (fun _ _ _ z => z) (fun y h z => by rw [z] at h; omega)
set_option maxRecDepth 100000 in
theorem c_countAllLacking (hl : l.stackTraces = false) (h : CLn G S tg W A t nl) :
    MT l G S yX7_countAllLacking cX7_countAllLacking 3 (some .int) (rmA 4) [va_rf (some t)] (fun v S' => v = some (.int (nI (allN A (aNo A)))) ∧ S' = S) (fun _ => False) := by
  obtain ⟨hv, hb, ho, hs, hr⟩ := id h
  have h5 := hv.2.1
  refine MT_of (by decide +kernel) hl rfl (Nat.le_of_ble_eq_true rfl) (fun Z hC hzl hnm hT hQ => ?_)
  change J G Z S 0 0 0 [some (va_rf (some t)), none, none] []
  have hzs : (zl Z).stackTraces = false := by rw [hzl]; exact hl
  have loop : ∀ (d i : Nat), i + d = aNo A → J G Z S 0 0 4 [some (va_rf (some t)), some (.int (nI (allN A i))), some (.int (nI i))] [] := by
    intro d
    induction d with
    | zero =>
      intro i hi
      have hi : i = aNo A := by omega
      subst hi
      refine r_iload_n hC dX7_countAllLacking_4 rfl rfl ?_
      refine r_aload_n hC dX7_countAllLacking_5 rfl rfl ?_
      refine r_getR  hC fl_X7_16 dX7_countAllLacking_6 (hr.1) (hr.2.2.1) ?_
      refine r_cV (as := []) hC (c_size hzs ho.1.1) cs_Jx4a65c_size_8abf5 q_201 q_202 q_203 (ho.1.1) (by decide) rfl dX7_countAllLacking_9 rfl rfl ⟨Nat.le_of_ble_eq_true rfl, Nat.le_of_ble_eq_true rfl⟩ (Nat.le_of_ble_eq_true rfl) ⟨Nat.le_of_ble_eq_true rfl, Nat.le_of_ble_eq_true rfl⟩ (fun v9 S9 p9 => ?_) (fun _ x => x.elim)
      obtain ⟨rfl, e9⟩ := p9
      rw [e9, ho.1.2.1]
      refine r_icge (tgt := 38) hC dX7_countAllLacking_12 (by decide) (fun h12 => ?_) (fun h12 => ?_)
      · refine r_iload_n hC dX7_countAllLacking_38 rfl rfl ?_
        refine r_iret hC hQ rfl dX7_countAllLacking_39 (Nat.le_of_ble_eq_true rfl) (Nat.le_of_ble_eq_true rfl) ?_
        exact ⟨rfl, rfl⟩
      · exact absurd (nI_le (Nat.le_refl _) (by omega)) h12
    | succ d ih =>
      intro i hi
      have hin : i < aNo A := by omega
      have hor := (ho.2.2.2 i hin).1
      refine r_iload_n hC dX7_countAllLacking_4 rfl rfl ?_
      refine r_aload_n hC dX7_countAllLacking_5 rfl rfl ?_
      refine r_getR  hC fl_X7_16 dX7_countAllLacking_6 (hr.1) (hr.2.2.1) ?_
      refine r_cV (as := []) hC (c_size hzs ho.1.1) cs_Jx4a65c_size_8abf5 q_201 q_202 q_203 (ho.1.1) (by decide) rfl dX7_countAllLacking_9 rfl rfl ⟨Nat.le_of_ble_eq_true rfl, Nat.le_of_ble_eq_true rfl⟩ (Nat.le_of_ble_eq_true rfl) ⟨Nat.le_of_ble_eq_true rfl, Nat.le_of_ble_eq_true rfl⟩ (fun v9 S9 p9 => ?_) (fun _ x => x.elim)
      obtain ⟨rfl, e9⟩ := p9
      rw [e9, ho.1.2.1]
      refine r_icge (tgt := 38) hC dX7_countAllLacking_12 (by decide) (fun h12 => ?_) (fun h12 => ?_)
      · exact absurd ((nI_leI (by omega) (by omega)).mp h12) (by omega)
      · skip
        refine r_iload_n hC dX7_countAllLacking_15 rfl rfl ?_
        refine r_aload_n hC dX7_countAllLacking_16 rfl rfl ?_
        refine r_getR  hC fl_X7_16 dX7_countAllLacking_17 (hr.1) (hr.2.2.1) ?_
        refine r_iload_n hC dX7_countAllLacking_20 rfl rfl ?_
        refine r_cV (as := [.int (nI i)]) hC (c_get hzs ho.1 hin (by omega)) cs_Jx4a65c_get_915e3 q_205 q_206 q_207 (ho.1.1) (by decide) rfl dX7_countAllLacking_21 rfl rfl ⟨Nat.le_of_ble_eq_true rfl, Nat.le_of_ble_eq_true rfl⟩ (Nat.le_of_ble_eq_true rfl) ⟨Nat.le_of_ble_eq_true rfl, Nat.le_of_ble_eq_true rfl⟩ (fun v21 S21 p21 => ?_) (fun _ x => x.elim)
        obtain ⟨rfl, e21⟩ := p21
        rw [e21]
        refine r_cast hC q_479 dX7_countAllLacking_24 hor.1 (by decide) rfl ?_
        refine r_cVN (as := []) hC (c_countLackingA hzs h hin) cs_X4_countLacking q_596 q_598 q_19 (hor.1) (by decide) rfl dX7_countAllLacking_27 rfl rfl ⟨Nat.le_of_ble_eq_true rfl, Nat.le_of_ble_eq_true rfl⟩ (Nat.le_of_ble_eq_true rfl) ⟨Nat.le_of_ble_eq_true rfl, Nat.le_of_ble_eq_true rfl⟩ (fun v27 S27 p27 => ?_) (fun _ x => x.elim)
        obtain ⟨rfl, e27⟩ := p27
        rw [e27]
        refine r_iadd hC dX7_countAllLacking_30 ?_
        refine r_istore_n hC dX7_countAllLacking_31 rfl (by decide) ?_
        refine r_iinc hC dX7_countAllLacking_32 rfl (ii1 _) ?_
        refine r_goto (tgt := 4) hC dX7_countAllLacking_35 (by decide) ?_
        rw [nI_add]
        exact ih (i + 1) (by omega)
  refine r_iconst (v := nI 0) hC dX7_countAllLacking_0 (by decide) ?_
  refine r_istore_n hC dX7_countAllLacking_1 rfl (by decide) ?_
  refine r_iconst (v := nI 0) hC dX7_countAllLacking_2 (by decide) ?_
  refine r_istore_n hC dX7_countAllLacking_3 rfl (by decide) ?_
  exact loop (aNo A) 0 (by omega)
set_option maxRecDepth 100000 in
set_option maxHeartbeats 1000000 in
theorem c_sortOrders (hl : l.stackTraces = false) (h : CLn G S tg W A t nl) :
    MT l G S yX7_sortOrders cX7_sortOrders 4 none (rmA 4) [va_rf (some t)] (fun v S' => v = none ∧ ∃ g, S' = sA S (wUt W) g ∧ ∀ k, k < aNo A → g k = nI (tnA A k)) (fun _ => False) := by
  obtain ⟨hv, hb, ho, hs, hr⟩ := id h
  have h5 := hv.2.1
  refine MT_of (by decide +kernel) hl rfl (Nat.le_of_ble_eq_true rfl) (fun Z hC hzl hnm hT hQ => ?_)
  change J G Z S 0 0 0 [some (va_rf (some t)), none, none, none] []
  have hzs : (zl Z).stackTraces = false := by rw [hzl]; exact hl
  refine r_hge hC (fun hg => ?_)
  have inner : ∀ (i : Nat) (g : Nat → Int32), i < aNo A → ∀ (d j : Nat), j + d = aNo A →
      (∀ o3, J G Z (sA S (wUt W) g) 0 0 65 [some (va_rf (some t)), some (.int (nI i)), some (.int (nI (rkA A i))), o3] []) →
      J G Z (sA S (wUt W) g) 0 0 17 [some (va_rf (some t)), some (.int (nI i)), some (.int (nI (ct (fun k => ahQ A k i) j))), some (.int (nI j))] [] := by
    intro i g hi d
    obtain ⟨hv1, hb1, ho1, hs1, hr1⟩ := id (h.ut hg g).1
    have hn1 := (h.ut hg g).1
    have hori := (ho1.2.2.2 i hi).1
    induction d with
    | zero =>
      intro j hj kk
      have hj : j = aNo A := by omega
      subst hj
      refine r_iload_n hC dX7_sortOrders_17 rfl rfl ?_
      refine r_aload_n hC dX7_sortOrders_18 rfl rfl ?_
      refine r_getR  hC fl_X7_16 dX7_sortOrders_19 (hr1.1) (hr1.2.2.1) ?_
      refine r_cV (as := []) hC (c_size hzs ho1.1.1) cs_Jx4a65c_size_8abf5 q_201 q_202 q_203 (ho1.1.1) (by decide) rfl dX7_sortOrders_22 rfl rfl ⟨Nat.le_of_ble_eq_true rfl, Nat.le_of_ble_eq_true rfl⟩ (Nat.le_of_ble_eq_true rfl) ⟨Nat.le_of_ble_eq_true rfl, Nat.le_of_ble_eq_true rfl⟩ (fun v22 S22 p22 => ?_) (fun _ x => x.elim)
      obtain ⟨rfl, e22⟩ := p22
      rw [e22, ho1.1.2.1]
      refine r_icge (tgt := 65) hC dX7_sortOrders_25 (by decide) (fun h25 => ?_) (fun h25 => ?_)
      · exact kk _
      · exact absurd (nI_le (Nat.le_refl _) (by omega)) h25
    | succ d ih =>
      intro j hj kk
      have hjn : j < aNo A := by omega
      have horj := (ho1.2.2.2 j hjn).1
      refine r_iload_n hC dX7_sortOrders_17 rfl rfl ?_
      refine r_aload_n hC dX7_sortOrders_18 rfl rfl ?_
      refine r_getR  hC fl_X7_16 dX7_sortOrders_19 (hr1.1) (hr1.2.2.1) ?_
      refine r_cV (as := []) hC (c_size hzs ho1.1.1) cs_Jx4a65c_size_8abf5 q_201 q_202 q_203 (ho1.1.1) (by decide) rfl dX7_sortOrders_22 rfl rfl ⟨Nat.le_of_ble_eq_true rfl, Nat.le_of_ble_eq_true rfl⟩ (Nat.le_of_ble_eq_true rfl) ⟨Nat.le_of_ble_eq_true rfl, Nat.le_of_ble_eq_true rfl⟩ (fun v22 S22 p22 => ?_) (fun _ x => x.elim)
      obtain ⟨rfl, e22⟩ := p22
      rw [e22, ho1.1.2.1]
      refine r_icge (tgt := 65) hC dX7_sortOrders_25 (by decide) (fun h25 => ?_) (fun h25 => ?_)
      · exact absurd ((nI_leI (by omega) (by omega)).mp h25) (by omega)
      · skip
        refine r_aload_n hC dX7_sortOrders_28 rfl rfl ?_
        refine r_getR  hC fl_X7_16 dX7_sortOrders_29 (hr1.1) (hr1.2.2.1) ?_
        refine r_iload_n hC dX7_sortOrders_32 rfl rfl ?_
        refine r_cV (as := [.int (nI j)]) hC (c_get hzs ho1.1 hjn (by omega)) cs_Jx4a65c_get_915e3 q_205 q_206 q_207 (ho1.1.1) (by decide) rfl dX7_sortOrders_33 rfl rfl ⟨Nat.le_of_ble_eq_true rfl, Nat.le_of_ble_eq_true rfl⟩ (Nat.le_of_ble_eq_true rfl) ⟨Nat.le_of_ble_eq_true rfl, Nat.le_of_ble_eq_true rfl⟩ (fun v33 S33 p33 => ?_) (fun _ x => x.elim)
        obtain ⟨rfl, e33⟩ := p33
        rw [e33]
        refine r_cast hC q_479 dX7_sortOrders_36 horj.1 (by decide) rfl ?_
        refine r_aload_n hC dX7_sortOrders_39 rfl rfl ?_
        refine r_getR  hC fl_X7_16 dX7_sortOrders_40 (hr1.1) (hr1.2.2.1) ?_
        refine r_iload_n hC dX7_sortOrders_43 rfl rfl ?_
        refine r_cV (as := [.int (nI i)]) hC (c_get hzs ho1.1 hi (by omega)) cs_Jx4a65c_get_915e3 q_205 q_206 q_207 (ho1.1.1) (by decide) rfl dX7_sortOrders_44 rfl rfl ⟨Nat.le_of_ble_eq_true rfl, Nat.le_of_ble_eq_true rfl⟩ (Nat.le_of_ble_eq_true rfl) ⟨Nat.le_of_ble_eq_true rfl, Nat.le_of_ble_eq_true rfl⟩ (fun v44 S44 p44 => ?_) (fun _ x => x.elim)
        obtain ⟨rfl, e44⟩ := p44
        rw [e44]
        refine r_cast hC q_479 dX7_sortOrders_47 hori.1 (by decide) rfl ?_
        refine r_cVN (as := [va_rf (some (wOo W i))]) hC (c_isAheadA hzs hn1 hjn hi) cs_X4_isAheadOf q_619 q_621 q_23 (horj.1) (by decide) rfl dX7_sortOrders_50 rfl rfl ⟨Nat.le_of_ble_eq_true rfl, Nat.le_of_ble_eq_true rfl⟩ (Nat.le_of_ble_eq_true rfl) ⟨Nat.le_of_ble_eq_true rfl, Nat.le_of_ble_eq_true rfl⟩ (fun v50 S50 p50 => ?_) (fun _ x => x.elim)
        obtain ⟨rfl, e50⟩ := p50
        rw [e50]
        refine r_ifeq (tgt := 59) hC dX7_sortOrders_53 (by decide) (fun h53 => ?_) (fun h53 => ?_)
        · have hq : ahQ A j i = false := by
            cases hq : ahQ A j i with
            | false => rfl
            | true => rw [hq] at h53; exact absurd h53 (by decide)
          refine r_iinc hC dX7_sortOrders_59 rfl (ii1 _) ?_
          refine r_goto (tgt := 17) hC dX7_sortOrders_62 (by decide) ?_
          have := ih (j + 1) (by omega) kk
          have e : ct (fun k => ahQ A k i) (j + 1) = ct (fun k => ahQ A k i) j := by simp only [ct, hq, Bool.false_eq_true, if_false, Nat.add_zero]
          rw [e] at this
          exact this
        · have hq : ahQ A j i = true := by
            cases hq : ahQ A j i with
            | true => rfl
            | false => rw [hq] at h53; exact absurd rfl h53
          refine r_iinc hC dX7_sortOrders_56 rfl (ii1 _) ?_
          refine r_iinc hC dX7_sortOrders_59 rfl (ii1 _) ?_
          refine r_goto (tgt := 17) hC dX7_sortOrders_62 (by decide) ?_
          have := ih (j + 1) (by omega) kk
          have e : ct (fun k => ahQ A k i) (j + 1) = ct (fun k => ahQ A k i) j + 1 := by simp only [ct, hq, if_true]
          rw [e] at this
          exact this
  have outer : ∀ (d i : Nat) (g : Nat → Int32) (o2 o3 : Option Value), i + d = aNo A → (∀ o, o < i → g (rkA A o) = nI o) →
      J G Z (sA S (wUt W) g) 0 0 2 [some (va_rf (some t)), some (.int (nI i)), o2, o3] [] := by
    intro d
    induction d with
    | zero =>
      intro i g o2 o3 hi hgk
      have hi : i = aNo A := by omega
      subst hi
      obtain ⟨hv1, hb1, ho1, hs1, hr1⟩ := id (h.ut hg g).1
      refine r_iload_n hC dX7_sortOrders_2 rfl rfl ?_
      refine r_aload_n hC dX7_sortOrders_3 rfl rfl ?_
      refine r_getR  hC fl_X7_16 dX7_sortOrders_4 (hr1.1) (hr1.2.2.1) ?_
      refine r_cV (as := []) hC (c_size hzs ho1.1.1) cs_Jx4a65c_size_8abf5 q_201 q_202 q_203 (ho1.1.1) (by decide) rfl dX7_sortOrders_7 rfl rfl ⟨Nat.le_of_ble_eq_true rfl, Nat.le_of_ble_eq_true rfl⟩ (Nat.le_of_ble_eq_true rfl) ⟨Nat.le_of_ble_eq_true rfl, Nat.le_of_ble_eq_true rfl⟩ (fun v7 S7 p7 => ?_) (fun _ x => x.elim)
      obtain ⟨rfl, e7⟩ := p7
      rw [e7, ho1.1.2.1]
      refine r_icge (tgt := 87) hC dX7_sortOrders_10 (by decide) (fun h10 => ?_) (fun h10 => ?_)
      · refine r_vret hC hQ rfl dX7_sortOrders_87 (Nat.le_of_ble_eq_true rfl) (Nat.le_of_ble_eq_true rfl) ?_
        refine ⟨rfl, g, rfl, fun k hk => ?_⟩
        obtain ⟨h1, h2⟩ := tn_lt hk
        have := hgk _ h1
        rwa [h2] at this
      · exact absurd (nI_le (Nat.le_refl _) (by omega)) h10
    | succ d ih =>
      intro i g o2 o3 hi hgk
      have hin : i < aNo A := by omega
      have hrk := rk_lt hin
      obtain ⟨hv1, hb1, ho1, hs1, hr1⟩ := id (h.ut hg g).1
      obtain ⟨kt, r0, r1, r2, r3, r4, r5, r6, i1, i2, ku, nu, tu, kd, nd, td, hd, hp, tc, th, hf, tf⟩ := id hr1
      refine r_iload_n hC dX7_sortOrders_2 rfl rfl ?_
      refine r_aload_n hC dX7_sortOrders_3 rfl rfl ?_
      refine r_getR  hC fl_X7_16 dX7_sortOrders_4 (hr1.1) (hr1.2.2.1) ?_
      refine r_cV (as := []) hC (c_size hzs ho1.1.1) cs_Jx4a65c_size_8abf5 q_201 q_202 q_203 (ho1.1.1) (by decide) rfl dX7_sortOrders_7 rfl rfl ⟨Nat.le_of_ble_eq_true rfl, Nat.le_of_ble_eq_true rfl⟩ (Nat.le_of_ble_eq_true rfl) ⟨Nat.le_of_ble_eq_true rfl, Nat.le_of_ble_eq_true rfl⟩ (fun v7 S7 p7 => ?_) (fun _ x => x.elim)
      obtain ⟨rfl, e7⟩ := p7
      rw [e7, ho1.1.2.1]
      refine r_icge (tgt := 87) hC dX7_sortOrders_10 (by decide) (fun h10 => ?_) (fun h10 => ?_)
      · exact absurd ((nI_leI (by omega) (by omega)).mp h10) (by omega)
      · skip
        refine r_iconst (v := nI 0) hC dX7_sortOrders_13 (by decide) ?_
        refine r_istore_n hC dX7_sortOrders_14 rfl (by decide) ?_
        refine r_iconst (v := nI 0) hC dX7_sortOrders_15 (by decide) ?_
        refine r_istore_n hC dX7_sortOrders_16 rfl (by decide) ?_
        refine inner i g hin (aNo A) 0 (by omega) (fun o3' => ?_)
        refine r_iload_n hC dX7_sortOrders_65 rfl rfl ?_
        refine r_aload_n hC dX7_sortOrders_66 rfl rfl ?_
        refine r_getR  hC fl_X7_22 dX7_sortOrders_67 (kt) (r3) ?_
        refine r_alen hC dX7_sortOrders_70 (ku) (by decide) (by decide) (nu) ?_
        refine r_icge (tgt := 81) hC dX7_sortOrders_71 (by decide) (fun h71 => ?_) (fun h71 => ?_)
        · exact absurd ((nI_leI (by omega) (by omega)).mp h71) (by omega)
        · refine r_aload_n hC dX7_sortOrders_74 rfl rfl ?_
          refine r_getR  hC fl_X7_22 dX7_sortOrders_75 (kt) (r3) ?_
          refine r_iload_n hC dX7_sortOrders_78 rfl rfl ?_
          refine r_iload_n hC dX7_sortOrders_79 rfl rfl ?_
          refine r_iast hC dX7_sortOrders_80 (ku) (rfl) (by rw [nu]; omega) (by rw [nu]; decide) ?_
          refine r_iinc hC dX7_sortOrders_81 rfl (ii1 _) ?_
          refine r_goto (tgt := 2) hC dX7_sortOrders_84 (by decide) ?_
          rw [sA_sA]
          refine ih (i + 1) _ _ _ (by omega) (fun o ho => ?_)
          rcases Nat.lt_or_ge o i with z | z
          · have hne : rkA A o ≠ rkA A i := fun w => by have := rk_inj (by omega) hin w; omega
            rw [pk_un hne, A_s]
            exact hgk o z
          · have : o = i := by omega
            subst this
            exact pk_us
  refine r_iconst (v := nI 0) hC dX7_sortOrders_0 (by decide) ?_
  refine r_istore_n hC dX7_sortOrders_1 rfl (by decide) ?_
  have := outer (aNo A) 0 (pA S (wUt W)) none none (by omega) (fun o h => absurd h (Nat.not_lt_zero o))
  rw [sA_id S rfl] at this
  exact this
end SortA

