/-! ===== contracts over pools: entry, end, calls, throws ===== -/
def QC (G : GG) (Po : Option Value → PS → Prop) : Array Value → State → Outcome → State → Prop := fun _ st o t => (∃ (v : Option Value) (S' : PS), o = .returned v ∧ Po v S' ∧ HW G S' t.heap) ∧ va_F (gA G) st t
def XC (G : GG) (Xo : String → Prop) (S : PS) : String → State → State → Prop := fun E st t => Xo E ∧ HW G S t.heap ∧ va_F (gA G) st t
/-- a method's contract from the pool S and the arguments as: what it answers and leaves (Po), which exceptions leave it (Xo, the pool as it was) -/
def MT (l : Launch) (G : GG) (S : PS) (y : MethodName) (cc : ByteArray) (nL : Nat) (ret : Option FieldType) (rm : Room) (as : List Value) (Po : Option Value → PS → Prop) (Xo : String → Prop) : Prop :=
  vx_Met l y (wsm y cc nL ret) rm (va_Pc as (fun U => KS G U U.heap ∧ HW G S U.heap)) (QC G Po) (XC G Xo S) rm.cells rm.slots (gA G)
/-- the same of a method with a table of its own that throws nothing -/
def MTw (l : Launch) (G : GG) (S : PS) (y : MethodName) (cc : ByteArray) (nL : Nat) (ret : Option FieldType) (hh : List (Nat × Nat × Nat × Nat)) (rm : Room) (as : List Value) (Po : Option Value → PS → Prop) : Prop :=
  Met l y (wsw y cc nL ret hh) rm (va_Pc as (fun U => KS G U U.heap ∧ HW G S U.heap)) (QC G Po) rm.cells rm.slots (gA G)
/-- what the end of a body must come to -/
def RQ (G : GG) (Z : ZZ) (Po : Option Value → PS → Prop) (Xo : String → Prop) (S : PS) (rm : Room) : Prop :=
  ∀ t : State, vx_MQ (zb Z) (QC G Po) (XC G Xo S) (za Z) (zs Z) rm.cells rm.slots (gA G) t → zQ Z t
theorem W_mono {p : Program} {l : Launch} {e : Env} {R : Room} {s : State} {m : MethodId} {args : Array Value} {below : List Frame} {meth : Method} {c : Code} {H : Heap} {locs : List Loc} {cells slots : Nat} {Q Q' : State → Prop} {g : JFrame} (h : ∀ t, Q t → Q' t)
    (w : W p l e R s m args below meth c H locs cells slots Q g) : W p l e R s m args below meth c H locs cells slots Q' g := by
  intro T hT X
  obtain ⟨t, a, b⟩ := w T hT X
  exact ⟨t, a, h t b⟩
theorem HW_kept {G : GG} {S : PS} {H H1 : Heap} (h : HW G S H) (hq : ∀ q : Nat, q < H.size → H1[q]? = H[q]?) : HW G S H1 :=
  ⟨h.1.kept (fun k q hk => hq q.1 (h.1 k q hk).lt), h.2⟩
/-- a body, from its entry -/
theorem MT_of {l : Launch} {G : GG} {S : PS} {y : MethodName} {cc : ByteArray} {nL : Nat} {ret : Option FieldType} {rm : Room} {as : List Value} {Po : Option Value → PS → Prop} {Xo : String → Prop} (hy : plainName y.cls = true) (hst : l.stackTraces = false)
    (hc : as.all (fun v => v.category == 1) = true) (hn : as.length ≤ nL)
    (body : ∀ Z : ZZ, CX G Z y.cls cc nL ret rm → zl Z = l → (zM Z).name = y.name → (∀ x ∈ (zc Z).exceptionTable.toList, False) → RQ G Z Po Xo S rm → J G Z S 0 0 0 (as.map some ++ List.replicate (nL - as.length) none) []) :
    MT l G S y cc nL ret rm as Po Xo := by
  refine vx_ofW (cc := cc) (maxL := nL) (ret := ret) hy rfl ?_
  intro p e s m args below meth c s₁ B hml ht hP
  obtain ⟨rfl, hK, hW⟩ := hP
  have hts : ∀ w ∈ TBL, w.before as.toArray s = true := fun w hw => atoms_spec (ws := wsm y cc nL ret) B.pre w (List.mem_cons_of_mem _ hw)
  have k := body (p, l, e, (headSpec (wsm y cc nL ret) rm).room, s, m, as.toArray, below, meth, c, vx_MQ below (QC G Po) (XC G Xo S) as.toArray s rm.cells rm.slots (gA G))
    ⟨B.exec, B.bytes, B.returns, findClass_of_methodNamed B.named, hml, hts, hK, B.notSynchronized, rfl, hst⟩ rfl (name_of_methodNamed B.named B.method).1 ht (fun t h => h)
  rw [lg_entry_eq]
  exact k s.heap [] _ hW va_S.rf (by show LH _ c.maxLocals _; rw [hml]; exact LH_entry as hc hn)
theorem vx_ofWw {l : Launch} {y : MethodName} {ws ws' : List Cond} {rm : Room} {Pc : Array Value → State → Prop} {Qc : Array Value → State → Outcome → State → Prop} {mc ms : Nat} {free : Addr → Prop} {cc : ByteArray} {maxL : Nat} {ret : Option FieldType} {hh : List (Nat × Nat × Nat × Nat)}
    (hy : plainName y.cls = true) (hw : ws = Cond.codeWith y cc maxL ret hh :: ws')
    (body : ∀ p e s m args below meth c s₁, BodyLoose p l y (headSpec ws rm) cc maxL ret e s m args below meth c s₁ → c.maxLocals = maxL → c.exceptionTable.toList = tableOf hh → Pc args s →
      W p l e (headSpec ws rm).room s m args below meth c s.heap [] 0 0 (MQ below Qc args s mc ms free) (entryFrame m args maxL)) : Met l y ws rm Pc Qc mc ms free := by
  refine MetFree.of_bodyS (code := cc) (maxLocals := maxL) (ret := ret) hy ?_ ?_
  · intro args s m h hn
    obtain ⟨m9, meth, c, hn9, h1, h2, h3, h4, -, h5, h6, -⟩ := Cond.codeWith_spec (atoms_spec (ws := ws) h _ (by rw [hw]; exact List.mem_cons_self))
    cases hn.symm.trans hn9
    exact ⟨meth, c, h1, h2, h3, h4, h5, h6⟩
  · intro p e s m args below meth c s₁ B hml hP _
    have hh0 : s₁.heap = s.heap := by rw [B.state]; rfl
    have hw9 : (Cond.codeWith y cc maxL ret hh).before args s = true := atoms_spec (ws := ws) B.pre _ (by rw [hw]; exact List.mem_cons_self)
    obtain ⟨t, a1, o, b1, b2, b3⟩ := body p e s m args below meth c s₁ B hml (vx_table (x := y) B hw9) hP s₁ hh0 (Stand.of_body B)
    exact ⟨t, o, a1, b1, b2, b3⟩
theorem MTw_of {l : Launch} {G : GG} {S : PS} {y : MethodName} {cc : ByteArray} {nL : Nat} {ret : Option FieldType} {hh : List (Nat × Nat × Nat × Nat)} {rm : Room} {as : List Value} {Po : Option Value → PS → Prop} (hy : plainName y.cls = true) (hst : l.stackTraces = false)
    (hc : as.all (fun v => v.category == 1) = true) (hn : as.length ≤ nL)
    (body : ∀ Z : ZZ, CX G Z y.cls cc nL ret rm → zl Z = l → (zM Z).name = y.name → (zc Z).exceptionTable.toList = tableOf hh → RQ G Z Po (fun _ => False) S rm → J G Z S 0 0 0 (as.map some ++ List.replicate (nL - as.length) none) []) :
    MTw l G S y cc nL ret hh rm as Po := by
  refine vx_ofWw (cc := cc) (maxL := nL) (ret := ret) hy rfl ?_
  intro p e s m args below meth c s₁ B hml ht hP
  obtain ⟨rfl, hK, hW⟩ := hP
  have hts : ∀ w ∈ TBL, w.before as.toArray s = true := fun w hw => atoms_spec (ws := wsw y cc nL ret hh) B.pre w (List.mem_cons_of_mem _ hw)
  have k := body (p, l, e, (headSpec (wsw y cc nL ret hh) rm).room, s, m, as.toArray, below, meth, c, MQ below (QC G Po) as.toArray s rm.cells rm.slots (gA G))
    ⟨B.exec, B.bytes, B.returns, findClass_of_methodNamed B.named, hml, hts, hK, B.notSynchronized, rfl, hst⟩ rfl (name_of_methodNamed B.named B.method).1 ht (fun t h => by
      obtain ⟨o, h1, h2, ⟨h3, h4⟩ | ⟨q, -, E, ce, L, ⟨h5, -⟩, -⟩⟩ := h
      · exact ⟨o, h1, h2, h3, h4⟩
      · exact h5.elim)
  rw [lg_entry_eq]
  exact k s.heap [] _ hW va_S.rf (by show LH _ c.maxLocals _; rw [hml]; exact LH_entry as hc hn)
section JE
variable {G : GG} {Z : ZZ} {own : String} {cc : ByteArray} {nL : Nat} {ret : Option FieldType} {rm : Room} {S S0 : PS} {k n pc : Nat} {L : List (Option Value)} {st : List Value} {Po : Option Value → PS → Prop} {Xo : String → Prop}
theorem rq_of (hQ : RQ G Z Po Xo S0 rm) {H : Heap} {locs : List Loc} {g : JFrame} (h : W (zp Z) (zl Z) (ze Z) (zR Z) (zs Z) (zm Z) (za Z) (zb Z) (zM Z) (zc Z) H locs rm.cells rm.slots (MQ (zb Z) (QC G Po) (za Z) (zs Z) rm.cells rm.slots (gA G)) g) (hk : k ≤ rm.cells) (hs : n ≤ rm.slots) :
    W (zp Z) (zl Z) (ze Z) (zR Z) (zs Z) (zm Z) (za Z) (zb Z) (zM Z) (zc Z) H locs k n (zQ Z) g := W.widen hk hs (W_mono hQ (vx_ret h))
theorem r_iret (hC : CX G Z own cc nL ret rm) (hQ : RQ G Z Po Xo S0 rm) (hr : ret = some .int) {v : Int32} (hd : decode cc pc = .ok (.ireturn, 1)) (hk : k ≤ rm.cells) (hs : n ≤ rm.slots) (hp : Po (some (.int v)) S) : J G Z S k n pc L [.int v] := by
  intro H locs ls hW hS hL
  exact rq_of hQ (W.iret hC.1 hC.2.1 (hC.2.2.1.trans hr) (fun t ht _ => ⟨⟨_, S, rfl, hp, by rw [ht]; exact hW⟩, hS.F ht⟩) hS.2.2 hd hC.2.2.2.2.2.2.2.1) hk hs
theorem r_zret (hC : CX G Z own cc nL ret rm) (hQ : RQ G Z Po Xo S0 rm) (hr : ret = some .boolean) {v : Int32} (hv : v = 0 ∨ v = 1) (hd : decode cc pc = .ok (.ireturn, 1)) (hk : k ≤ rm.cells) (hs : n ≤ rm.slots) (hp : Po (some (.int v)) S) : J G Z S k n pc L [.int v] := by
  intro H locs ls hW hS hL
  exact rq_of hQ (W.zret hC.1 hC.2.1 (hC.2.2.1.trans hr) (by rcases hv with e | e <;> subst e <;> rfl) (fun t ht _ => ⟨⟨_, S, rfl, hp, by rw [ht]; exact hW⟩, hS.F ht⟩) hS.2.2 hd hC.2.2.2.2.2.2.2.1) hk hs
theorem r_vret (hC : CX G Z own cc nL ret rm) (hQ : RQ G Z Po Xo S0 rm) (hr : ret = none) (hd : decode cc pc = .ok (.return_, 1)) (hk : k ≤ rm.cells) (hs : n ≤ rm.slots) (hp : Po none S) : J G Z S k n pc L [] := by
  intro H locs ls hW hS hL
  exact rq_of hQ (W.vret hC.1 hC.2.1 (hC.2.2.1.trans hr) (fun t ht _ => ⟨⟨_, S, rfl, hp, by rw [ht]; exact hW⟩, hS.F ht⟩) hS.2.2 hd hC.2.2.2.2.2.2.2.1) hk hs
theorem r_aret (hC : CX G Z own cc nL ret rm) (hQ : RQ G Z Po Xo S0 rm) {rt : FieldType} (hr : ret = some rt) (hrt : (∃ n, rt = .object n) ∨ ∃ t, rt = .array t) {v : Option Nat} (hd : decode cc pc = .ok (.areturn, 1)) (hk : k ≤ rm.cells) (hs : n ≤ rm.slots) (hp : Po (some (va_rf v)) S) : J G Z S k n pc L [va_rf v] := by
  intro H locs ls hW hS hL
  exact rq_of hQ (W.aret hC.1 hC.2.1 (hC.2.2.1.trans hr) hrt (by cases v <;> first | exact Or.inl rfl | exact Or.inr ⟨_, rfl⟩) (fun t ht _ => ⟨⟨_, S, rfl, hp, by rw [ht]; exact hW⟩, hS.F ht⟩) hS.2.2 hd hC.2.2.2.2.2.2.2.1) hk hs
/-- an exception goes on to the caller -/
theorem r_out (hC : CX G Z own cc nL ret rm) (hQ : RQ G Z Po Xo S rm) (ht : ∀ x ∈ (zc Z).exceptionTable.toList, False) {E : String} (hk : k ≤ rm.cells) (hs : n ≤ rm.slots) (hx : Xo E) : JX G Z S k n pc L st E := by
  intro H locs ls q ce hW hS hL h1 h2 h3 T hT X
  obtain ⟨t, a, b⟩ := vx_out (Qc := QC G Po) (XC := XC G Xo S) (mc := rm.cells) (ms := rm.slots) (free := gA G) (fun x hx => (ht x hx).elim) hC.2.2.2.2.2.2.2.1 h1 h2 h3 (fun t ht _ => ⟨hx, by rw [ht]; exact hW, hS.F ht⟩) hS.2.2 hk hs T hT X
  exact ⟨t, a, hQ t b⟩
/-- 'throw new E("text")' -/
theorem r_throw (hC : CX G Z own cc nL ret rm) (hQ : RQ G Z Po Xo S rm) (ht : ∀ x ∈ (zc Z).exceptionTable.toList, False) {E text : String} {names : List String} {ik is ic i : Nat}
    (hx : Xo E) (hcls : Bundle.fit E = true) (hnames : ∀ n ∈ names, Bundle.fit n = true) (w1 : Cond.classLink own ik E ∈ TBL) (w2 : Cond.initialized E ∈ TBL) (hstr : strs[i]? = some (own, is, text))
    (hat : ∀ w ∈ vx_atS own ic E names, w ∈ TBL) (hgood : ∀ w ∈ Cond.classLink own ik E :: Cond.initialized E :: vx_atS own ic E names, vx_ot w = true)
    (d0 : decode cc pc = .ok (.new ik, 3)) (d3 : decode cc (pc + 3) = .ok (.dup, 1)) (d4 : decode cc (pc + 4) = .ok (.ldc is, 2)) (d6 : decode cc (pc + 6) = .ok (.invokespecial ic, 3)) (d9 : decode cc (pc + 9) = .ok (.athrow, 1))
    (hf : names.length + 3 < rm.frames) (hl : (st.map fun v => v.category).sum + (13 * (names.length + 1) + 43) ≤ rm.locals) (hk : k + 1 ≤ rm.cells) (hs : n + 6 ≤ rm.slots) : J G Z S k n pc L st := by
  intro H locs ls hW hS hL
  have hK := hC.ks
  refine W_mono hQ (vx_throwS (XC := XC G Xo S) hC.1 hC.2.1 hC.2.2.2.2.2.2.2.2.2 hC.ow hcls hnames (hC.ww _ w1) (hC.ww _ w2) (hK.2.2.2.2.2.1 i _ hstr) (fun w hw => hC.ww _ (hat w hw)) hgood hK.2.1 hK.2.2.1 hS hL.1.1 d0 d3 d4 d6 d9
    (fun x hx => (ht x hx).elim) (by rw [hC.rr]; exact hf) (by rw [hC.rr]; exact hl) (by rw [hC.rr]; exact hk) (by rw [hC.rr]; exact hs) hC.2.2.2.2.2.2.2.1 (fun t hA h1 h2 => ⟨hx, HW_kept hW h2, ?_⟩) hS.2.2 hk hs)
  exact ⟨Nat.le_trans hS.1 h1, fun q q1 q2 => by rw [h2 q (Nat.lt_of_lt_of_le q1 hS.1)]; exact hS.2.1 q q1 q2⟩
/-- 'throw new E("text")', the text by a wide index -/
theorem r_throwW (hC : CX G Z own cc nL ret rm) (hQ : RQ G Z Po Xo S rm) (ht : ∀ x ∈ (zc Z).exceptionTable.toList, False) {E text : String} {names : List String} {ik is ic i : Nat}
    (hx : Xo E) (hcls : Bundle.fit E = true) (hnames : ∀ n ∈ names, Bundle.fit n = true) (w1 : Cond.classLink own ik E ∈ TBL) (w2 : Cond.initialized E ∈ TBL) (hstr : strs[i]? = some (own, is, text))
    (hat : ∀ w ∈ vx_atS own ic E names, w ∈ TBL) (hgood : ∀ w ∈ Cond.classLink own ik E :: Cond.initialized E :: vx_atS own ic E names, vx_ot w = true)
    (d0 : decode cc pc = .ok (.new ik, 3)) (d3 : decode cc (pc + 3) = .ok (.dup, 1)) (d4 : decode cc (pc + 4) = .ok (.ldc_w is, 3)) (d6 : decode cc (pc + 7) = .ok (.invokespecial ic, 3)) (d9 : decode cc (pc + 10) = .ok (.athrow, 1))
    (hf : names.length + 3 < rm.frames) (hl : (st.map fun v => v.category).sum + (13 * (names.length + 1) + 43) ≤ rm.locals) (hk : k + 1 ≤ rm.cells) (hs : n + 6 ≤ rm.slots) : J G Z S k n pc L st := by
  intro H locs ls hW hS hL
  have hK := hC.ks
  refine W_mono hQ (vx_throwSW (XC := XC G Xo S) hC.1 hC.2.1 hC.2.2.2.2.2.2.2.2.2 hC.ow hcls hnames (hC.ww _ w1) (hC.ww _ w2) (hK.2.2.2.2.2.1 i _ hstr) (fun w hw => hC.ww _ (hat w hw)) hgood hK.2.1 hK.2.2.1 hS hL.1.1 d0 d3 d4 d6 d9
    (fun x hx => (ht x hx).elim) (by rw [hC.rr]; exact hf) (by rw [hC.rr]; exact hl) (by rw [hC.rr]; exact hk) (by rw [hC.rr]; exact hs) hC.2.2.2.2.2.2.2.1 (fun t hA h1 h2 => ⟨hx, HW_kept hW h2, ?_⟩) hS.2.2 hk hs)
  exact ⟨Nat.le_trans hS.1 h1, fun q q1 q2 => by rw [h2 q (Nat.lt_of_lt_of_le q1 hS.1)]; exact hS.2.1 q q1 q2⟩
/-- caught by this method's table -/
theorem r_catch (hC : CX G Z own cc nL ret rm) {tb : List ExceptionTableEntry} (ht : (zc Z).exceptionTable.toList = tb) {E name : String} (pre : List ExceptionTableEntry) (x : ExceptionTableEntry) (suf : List ExceptionTableEntry) (hsplit : tb = pre ++ x :: suf)
    (hpass : ∀ z ∈ pre, covers z pc = false ∨ (z.catchType ≠ 0 ∧ ∃ nm : String, Cond.classLink own z.catchType nm ∈ TBL ∧ va_Nc E nm (zs Z))) (hx : covers x pc = true) (h0 : x.catchType ≠ 0)
    (w1 : Cond.classLink own x.catchType name ∈ TBL) (w2 : Cond.castable E name ∈ TBL) (kk : ∀ q : Addr, J G Z S k n x.handlerPc L [va_rf (some q)]) : JX G Z S k n pc L st E := by
  intro H locs ls q ce hW hS hL h1 h2 h3
  exact vx_catch hC.ow pre x suf (ht.trans hsplit) (fun z hz => (hpass z hz).imp id (fun ⟨a, nm, b, c⟩ => ⟨a, nm, hC.ww _ b, c⟩)) hx h0 (hC.ww _ w1) (hC.ww _ w2) h1 h2 h3 (kk q H locs ls hW hS hL)
theorem JX.wide {k' n' : Nat} {E : String} (h1 : k ≤ k') (h2 : n ≤ n') (kk : JX G Z S k' n' pc L st E) : JX G Z S k n pc L st E := fun H locs ls q ce hW hS hL a b c => vx_widen h1 h2 (kk H locs ls q ce hW hS hL a b c)
theorem blind {as : List Value} : FrameBlind (va_Pc as (fun U => KS G U U.heap ∧ HW G S U.heap)) := by
  intro a U g mk q
  obtain ⟨q0, q1, q2⟩ := q
  exact ⟨q0, KS.same rfl q1, q2⟩
theorem pre_at (hC : CX G Z own cc nL ret rm) {H : Heap} {locs : List Loc} (hW : HW G S H) (hS : va_S (gA G) (zs Z).heap H locs) {as : List Value} : ∀ U : State, U.heap = H → (zs Z).WarmedH U.vm → va_Pc as (fun U => KS G U U.heap ∧ HW G S U.heap) as.toArray U := by
  intro U hU hW2
  refine ⟨rfl, ?_, by rw [hU]; exact hW⟩
  rw [hU]
  exact KS.move hW2 hC.ks (fun a h1 h2 => hS.2.1 a h1 h2) hS.1
theorem J_run {rmc : Room} {Po' : Option Value → PS → Prop} {Xo' : String → Prop} {a : Array Value} {st' : List Value} (hC : CX G Z own cc nL ret rm)
    (hr : ∀ (H : Heap) (locs : List Loc) (ls : Array Slot), HW G S H → va_S (gA G) (zs Z).heap H locs → LH ls (zc Z).maxLocals L →
      vx_Run (zp Z) (zl Z) (ze Z) (zR Z) (zs Z) (zm Z) (za Z) (zb Z) (zM Z) (zc Z) H locs k n rmc.cells rmc.slots (F0 (zm Z) pc ls st) st' (QC G Po' a) (XC G Xo' S) (gA G))
    (kk : ∀ v S', Po' v S' → J G Z S' (k + rmc.cells) (n + rmc.slots) (pc + 3) L (v.toList ++ st')) (kx : ∀ E, Xo' E → JX G Z S (k + rmc.cells) (n + rmc.slots) pc L st' E) : J G Z S k n pc L st := by
  intro H locs ls hW hS hL T hT X
  have hf : ∀ q, gA G q → gA G q := fun _ h => h
  rcases hr H locs ls hW hS hL T hT X with ⟨v, st₀, t, T', L', h0, X', hL', e1, e2, ⟨⟨v', S', hv, hp, hW'⟩, hF⟩, go⟩ | ⟨q, st₀, t, T', L', E, ce, h0, X', hL', e1, e2, ⟨hp, hW', hF⟩, hce, hcv, hcl, go⟩
  · cases hv
    obtain ⟨k1, k2, k3⟩ := vx_keep h0 e1 hS (fun q _ h => h) hf hL' hF
    obtain ⟨t2, a1, b1⟩ := kk v S' hp T'.heap (locs ++ L') ls (by rw [e1]; exact hW') k3 hL T' rfl X'
    exact ⟨t2, go t2 a1, b1⟩
  · obtain ⟨k1, k2, k3⟩ := vx_keep h0 e1 hS (fun q _ h => h) hf hL' hF
    obtain ⟨t2, a1, b1⟩ := kx E hp T'.heap (locs ++ L') ls q ce (by rw [e1]; exact hW') k3 hL (by rw [e1]; exact hce) hcv hcl T' rfl X'
    exact ⟨t2, go.trans a1, b1⟩
/-- what a call site says of the tables -/
def CS (y : MethodName) (bytes : ByteArray) (maxL : Nat) (rty : Option FieldType) (ar : Nat) : Prop :=
  Cond.code y bytes maxL rty ∈ TBL ∧ Cond.initialized y.cls ∈ TBL ∧ (y.cls ≠ "java/lang/invoke/MethodHandle" ∧ y.cls ≠ "java/lang/invoke/VarHandle") ∧ (parseMethodDescriptor y.desc).map (fun d => d.parameters.length) = some ar
theorem cb_of (hC : CX G Z own cc nL ret rm) {y : MethodName} {bytes : ByteArray} {maxL idx ar : Nat} {rty : Option FieldType} {rmc : Room} (hs : CS y bytes maxL rty ar) (hl : Cond.methodLink own idx y ∈ TBL) (hR : rmc.frames + 1 ≤ rm.frames ∧ 8 + (maxL + 11) + rmc.locals ≤ rm.locals) :
    CallB (zR Z) (zs Z) (za Z) own idx y bytes maxL rty (wsm y bytes maxL rty) rmc rmc.cells rmc.slots ar := by
  obtain ⟨w1, w2, w3, w4⟩ := hs
  refine ⟨rfl, rfl, by rw [hC.rr]; exact hR.1, by rw [hC.rr]; exact hR.2, wsm_pay hC.ww w1, List.mem_cons_self, hC.ww _ w1, hC.ww _ w2, w3, fun sig h => ?_, hC.ww _ hl⟩
  rw [h] at w4
  exact (Option.some.inj w4).symm
theorem cn_of (hC : CX G Z own cc nL ret rm) {y : MethodName} {bytes : ByteArray} {maxL idx ar : Nat} {host : String} {rty : Option FieldType} {rmc : Room} (hs : CS y bytes maxL rty ar) (hl : Cond.methodLinkNest own idx y host ∈ TBL) (hR : rmc.frames + 1 ≤ rm.frames ∧ 8 + (maxL + 11) + rmc.locals ≤ rm.locals) :
    va_CN (zR Z) (zs Z) (za Z) own idx y host bytes maxL rty (wsm y bytes maxL rty) rmc rmc.cells rmc.slots ar := by
  obtain ⟨w1, w2, w3, w4⟩ := hs
  refine ⟨⟨rfl, rfl, by rw [hC.rr]; exact hR.1, by rw [hC.rr]; exact hR.2, wsm_pay hC.ww w1, List.mem_cons_self⟩, hC.ww _ w1, hC.ww _ w2, w3, fun sig h => ?_, hC.ww _ hl⟩
  rw [h] at w4
  exact (Option.some.inj w4).symm
theorem rcv_of (hC : CX G Z own cc nL ret rm) {H : Heap} (hW : HW G S H) {b kd : Nat} (hb : KD S b kd) {C : String} (h10 : kd < 10) (hc : cls[kd]?.map (fun q => q.1) = some C) : ∃ cellB : Cell, H[b]? = some cellB ∧ cellB.vm.isStatics = false ∧ (zs Z).vm.findClass C = some cellB.cls := by
  obtain ⟨q, -, hq⟩ := HW_cell hW hb.1 (PF_obj hb.2 h10)
  cases hc2 : cls[kd]? with
  | none => rw [hc2] at hc; cases hc
  | some r =>
    rw [hc2] at hc
    have e : r.1 = C := Option.some.inj hc
    rw [← e]
    exact va_recv hC.ks.1 hW.1 hc2 hq
variable {y : MethodName} {bytes : ByteArray} {maxL idx ar : Nat} {rty : Option FieldType} {rmc : Room} {Po' : Option Value → PS → Prop} {Xo' : String → Prop} {as st' : List Value}
theorem r_cS (hC : CX G Z own cc nL ret rm) (hM : MT (zl Z) G S y bytes maxL rty rmc as Po' Xo') (hs : CS y bytes maxL rty ar) (hl : Cond.methodLink own idx y ∈ TBL) (hst : Cond.static y ∈ TBL) (hd : decode cc pc = .ok (.invokestatic idx, 3)) (ha : as.length = ar) (he : st = as.reverse ++ st')
    (hR : rmc.frames + 1 ≤ rm.frames ∧ 8 + (maxL + 11) + rmc.locals ≤ rm.locals) (hcat : (st'.map fun v => v.category).sum ≤ 8) (hb : k + rmc.cells ≤ rm.cells ∧ n + rmc.slots ≤ rm.slots)
    (kk : ∀ v S', Po' v S' → J G Z S' (k + rmc.cells) (n + rmc.slots) (pc + 3) L (v.toList ++ st')) (kx : ∀ E, Xo' E → JX G Z S (k + rmc.cells) (n + rmc.slots) pc L st' E) : J G Z S k n pc L st :=
  J_run hC (a := as.toArray) (fun H locs ls hW hS hL => vx_runS ⟨hC.1, hC.2.1, hC.ml, hC.ow, hC.ww⟩ hM ⟨cb_of hC hs hl hR, hC.ww _ hst⟩ ⟨blind, pre_at hC hW hS⟩ rfl ha (hL.1.1.trans hC.ml) he (lv_room hcat) hd (by rw [hC.rr]; exact hb)) kk kx
theorem r_cSN {host : String} (hC : CX G Z own cc nL ret rm) (hM : MT (zl Z) G S y bytes maxL rty rmc as Po' Xo') (hs : CS y bytes maxL rty ar) (hl : Cond.methodLinkNest own idx y host ∈ TBL) (hst : Cond.static y ∈ TBL) (hd : decode cc pc = .ok (.invokestatic idx, 3)) (ha : as.length = ar) (he : st = as.reverse ++ st')
    (hR : rmc.frames + 1 ≤ rm.frames ∧ 8 + (maxL + 11) + rmc.locals ≤ rm.locals) (hcat : (st'.map fun v => v.category).sum ≤ 8) (hb : k + rmc.cells ≤ rm.cells ∧ n + rmc.slots ≤ rm.slots)
    (kk : ∀ v S', Po' v S' → J G Z S' (k + rmc.cells) (n + rmc.slots) (pc + 3) L (v.toList ++ st')) (kx : ∀ E, Xo' E → JX G Z S (k + rmc.cells) (n + rmc.slots) pc L st' E) : J G Z S k n pc L st :=
  J_run hC (a := as.toArray) (fun H locs ls hW hS hL => vx_runSN ⟨hC.1, hC.2.1, hC.ml, hC.ow, hC.ww⟩ hM ⟨cn_of hC hs hl hR, hC.ww _ hst, trivial⟩ ⟨blind, pre_at hC hW hS⟩ rfl ha (hL.1.1.trans hC.ml) he (lv_room hcat) hd (by rw [hC.rr]; exact hb)) kk kx
theorem r_cV {b kd : Nat} {C : String} (hC : CX G Z own cc nL ret rm) (hM : MT (zl Z) G S y bytes maxL rty rmc (va_rf (some b) :: as) Po' Xo') (hs : CS y bytes maxL rty ar) (hl : Cond.methodLink own idx y ∈ TBL) (hin : Cond.instanceMethod y ∈ TBL) (hse : Cond.selects C y y ∈ TBL) (hkd : KD S b kd) (h10 : kd < 10) (hc : cls[kd]?.map (fun q => q.1) = some C) (hd : decode cc pc = .ok (.invokevirtual idx, 3)) (ha : as.length = ar) (he : st = as.reverse ++ va_rf (some b) :: st')
    (hR : rmc.frames + 1 ≤ rm.frames ∧ 8 + (maxL + 11) + rmc.locals ≤ rm.locals) (hcat : (st'.map fun v => v.category).sum ≤ 8) (hb : k + rmc.cells ≤ rm.cells ∧ n + rmc.slots ≤ rm.slots)
    (kk : ∀ v S', Po' v S' → J G Z S' (k + rmc.cells) (n + rmc.slots) (pc + 3) L (v.toList ++ st')) (kx : ∀ E, Xo' E → JX G Z S (k + rmc.cells) (n + rmc.slots) pc L st' E) : J G Z S k n pc L st :=
  J_run hC (a := (va_rf (some b) :: as).toArray) (fun H locs ls hW hS hL => vx_runV (C := C) ⟨hC.1, hC.2.1, hC.ml, hC.ow, hC.ww⟩ hM ⟨cb_of hC hs hl hR, hC.ww _ hin, hC.ww _ hse⟩ ⟨blind, rcv_of hC hW hkd h10 hc, pre_at hC hW hS⟩ rfl ha (hL.1.1.trans hC.ml) he (lv_room hcat) hd (by rw [hC.rr]; exact hb)) kk kx
theorem r_cVN {b kd : Nat} {C host : String} (hC : CX G Z own cc nL ret rm) (hM : MT (zl Z) G S y bytes maxL rty rmc (va_rf (some b) :: as) Po' Xo') (hs : CS y bytes maxL rty ar) (hl : Cond.methodLinkNest own idx y host ∈ TBL) (hin : Cond.instanceMethod y ∈ TBL) (hse : Cond.selects C y y ∈ TBL) (hkd : KD S b kd) (h10 : kd < 10) (hc : cls[kd]?.map (fun q => q.1) = some C) (hd : decode cc pc = .ok (.invokevirtual idx, 3)) (ha : as.length = ar) (he : st = as.reverse ++ va_rf (some b) :: st')
    (hR : rmc.frames + 1 ≤ rm.frames ∧ 8 + (maxL + 11) + rmc.locals ≤ rm.locals) (hcat : (st'.map fun v => v.category).sum ≤ 8) (hb : k + rmc.cells ≤ rm.cells ∧ n + rmc.slots ≤ rm.slots)
    (kk : ∀ v S', Po' v S' → J G Z S' (k + rmc.cells) (n + rmc.slots) (pc + 3) L (v.toList ++ st')) (kx : ∀ E, Xo' E → JX G Z S (k + rmc.cells) (n + rmc.slots) pc L st' E) : J G Z S k n pc L st :=
  J_run hC (a := (va_rf (some b) :: as).toArray) (fun H locs ls hW hS hL => vx_runVN (C := C) ⟨hC.1, hC.2.1, hC.ml, hC.ow, hC.ww⟩ hM ⟨cn_of hC hs hl hR, hC.ww _ hin, hC.ww _ hse⟩ ⟨blind, rcv_of hC hW hkd h10 hc, pre_at hC hW hS⟩ rfl ha (hL.1.1.trans hC.ml) he (lv_room hcat) hd (by rw [hC.rr]; exact hb)) kk kx
theorem r_cI {b : Nat} (hC : CX G Z own cc nL ret rm) (hM : MT (zl Z) G S y bytes maxL none rmc (va_rf (some b) :: as) Po' Xo') (hs : CS y bytes maxL none ar) (hl : Cond.methodLink own idx y ∈ TBL) (hin : Cond.instanceMethod y ∈ TBL) (hy : y.name = "<init>") (hd : decode cc pc = .ok (.invokespecial idx, 3)) (ha : as.length = ar) (he : st = as.reverse ++ va_rf (some b) :: st')
    (hR : rmc.frames + 1 ≤ rm.frames ∧ 8 + (maxL + 11) + rmc.locals ≤ rm.locals) (hcat : (st'.map fun v => v.category).sum ≤ 8) (hb : k + rmc.cells ≤ rm.cells ∧ n + rmc.slots ≤ rm.slots)
    (kk : ∀ v S', Po' v S' → J G Z S' (k + rmc.cells) (n + rmc.slots) (pc + 3) L (v.toList ++ st')) (kx : ∀ E, Xo' E → JX G Z S (k + rmc.cells) (n + rmc.slots) pc L st' E) : J G Z S k n pc L st :=
  J_run hC (a := (va_rf (some b) :: as).toArray) (fun H locs ls hW hS hL => vx_runI ⟨hC.1, hC.2.1, hC.ml, hC.ow, hC.ww⟩ hM ⟨cb_of hC hs hl hR, hy, hC.ww _ hin⟩ ⟨blind, pre_at hC hW hS⟩ rfl ha (hL.1.1.trans hC.ml) he (lv_room hcat) hd (by rw [hC.rr]; exact hb)) kk kx
theorem r_cIN {b : Nat} {host : String} (hC : CX G Z own cc nL ret rm) (hM : MT (zl Z) G S y bytes maxL none rmc (va_rf (some b) :: as) Po' Xo') (hs : CS y bytes maxL none ar) (hl : Cond.methodLinkNest own idx y host ∈ TBL) (hin : Cond.instanceMethod y ∈ TBL) (hy : y.name = "<init>") (hd : decode cc pc = .ok (.invokespecial idx, 3)) (ha : as.length = ar) (he : st = as.reverse ++ va_rf (some b) :: st')
    (hR : rmc.frames + 1 ≤ rm.frames ∧ 8 + (maxL + 11) + rmc.locals ≤ rm.locals) (hcat : (st'.map fun v => v.category).sum ≤ 8) (hb : k + rmc.cells ≤ rm.cells ∧ n + rmc.slots ≤ rm.slots)
    (kk : ∀ v S', Po' v S' → J G Z S' (k + rmc.cells) (n + rmc.slots) (pc + 3) L (v.toList ++ st')) (kx : ∀ E, Xo' E → JX G Z S (k + rmc.cells) (n + rmc.slots) pc L st' E) : J G Z S k n pc L st :=
  J_run hC (a := (va_rf (some b) :: as).toArray) (fun H locs ls hW hS hL => vx_runIN ⟨hC.1, hC.2.1, hC.ml, hC.ow, hC.ww⟩ hM ⟨cn_of hC hs hl hR, hy, hC.ww _ hin⟩ ⟨blind, pre_at hC hW hS⟩ rfl ha (hL.1.1.trans hC.ml) he (lv_room hcat) hd (by rw [hC.rr]; exact hb)) kk kx
/-- a static method with a table of its own -/
theorem r_cSW {hh : List (Nat × Nat × Nat × Nat)} (hC : CX G Z own cc nL ret rm) (hM : MTw (zl Z) G S y bytes maxL rty hh rmc as Po') (w1 : Cond.codeWith y bytes maxL rty hh ∈ TBL) (w2 : Cond.initialized y.cls ∈ TBL) (hy : y.cls ≠ "java/lang/invoke/MethodHandle" ∧ y.cls ≠ "java/lang/invoke/VarHandle") (har : (parseMethodDescriptor y.desc).map (fun d => d.parameters.length) = some ar) (hl : Cond.methodLink own idx y ∈ TBL) (hst : Cond.static y ∈ TBL) (hd : decode cc pc = .ok (.invokestatic idx, 3)) (ha : as.length = ar) (he : st = as.reverse ++ st')
    (hR : rmc.frames + 1 ≤ rm.frames ∧ 8 + (maxL + 11) + rmc.locals ≤ rm.locals) (hcat : (st'.map fun v => v.category).sum ≤ 8) (hb : k + rmc.cells ≤ rm.cells ∧ n + rmc.slots ≤ rm.slots)
    (kk : ∀ v S', Po' v S' → J G Z S' (k + rmc.cells) (n + rmc.slots) (pc + 3) L (v.toList ++ st')) : J G Z S k n pc L st := by
  refine J_run hC (a := as.toArray) (Xo' := fun _ => False) (fun H locs ls hW hS hL => ?_) kk (fun E h => h.elim)
  have cw : vx_CSW (zR Z) (zs Z) (za Z) own idx y bytes maxL rty hh (wsw y bytes maxL rty hh) rmc rmc.cells rmc.slots ar := by
    refine ⟨⟨rfl, rfl, by rw [hC.rr]; exact hR.1, by rw [hC.rr]; exact hR.2, wsw_pay hC.ww w1, List.mem_cons_self⟩, hC.ww _ w1, hC.ww _ w2, hy, fun sig h => ?_, hC.ww _ hl, hC.ww _ hst⟩
    rw [h] at har
    exact (Option.some.inj har).symm
  intro T hT X
  exact Or.inl (vx_runSW ⟨hC.1, hC.2.1, hC.ml, hC.ow, hC.ww⟩ hM cw ⟨blind, pre_at hC hW hS⟩ rfl ha (hL.1.1.trans hC.ml) he (lv_room hcat) hd (by rw [hC.rr]; exact hb) T hT X)
end JE
