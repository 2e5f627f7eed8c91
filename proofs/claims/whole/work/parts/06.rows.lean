/-! ===== the judgement J: the machine at a place of a method, over a pool ===== -/
abbrev ZZ : Type := Program × Launch × Env × Room × State × MethodId × Array Value × List Frame × Method × Code × (State → Prop)
abbrev zp (Z : ZZ) : Program := Z.1
abbrev zl (Z : ZZ) : Launch := Z.2.1
abbrev ze (Z : ZZ) : Env := Z.2.2.1
abbrev zR (Z : ZZ) : Room := Z.2.2.2.1
abbrev zs (Z : ZZ) : State := Z.2.2.2.2.1
abbrev zm (Z : ZZ) : MethodId := Z.2.2.2.2.2.1
abbrev za (Z : ZZ) : Array Value := Z.2.2.2.2.2.2.1
abbrev zb (Z : ZZ) : List Frame := Z.2.2.2.2.2.2.2.1
abbrev zM (Z : ZZ) : Method := Z.2.2.2.2.2.2.2.2.1
abbrev zc (Z : ZZ) : Code := Z.2.2.2.2.2.2.2.2.2.1
abbrev zQ (Z : ZZ) : State → Prop := Z.2.2.2.2.2.2.2.2.2.2
def J (G : GG) (Z : ZZ) (S : PS) (k n pc : Nat) (L : List (Option Value)) (st : List Value) : Prop :=
  ∀ (H : Heap) (locs : List Loc) (ls : Array Slot), HW G S H → va_S (gA G) (zs Z).heap H locs → LH ls (zc Z).maxLocals L →
    W (zp Z) (zl Z) (ze Z) (zR Z) (zs Z) (zm Z) (za Z) (zb Z) (zM Z) (zc Z) H locs k n (zQ Z) (F0 (zm Z) pc ls st)
def JX (G : GG) (Z : ZZ) (S : PS) (k n pc : Nat) (L : List (Option Value)) (st : List Value) (E : String) : Prop :=
  ∀ (H : Heap) (locs : List Loc) (ls : Array Slot) (q : Addr) (ce : Cell), HW G S H → va_S (gA G) (zs Z).heap H locs → LH ls (zc Z).maxLocals L →
    H[q]? = some ce → ce.vm = .none → (zs Z).vm.findClass E = some ce.cls →
    vx_W (zp Z) (zl Z) (ze Z) (zR Z) (zs Z) (zm Z) (za Z) (zb Z) (zM Z) (zc Z) H locs k n (zQ Z) (F0 (zm Z) pc ls st) q
/-- what stands fast in a method's body -/
def CX (G : GG) (Z : ZZ) (own : String) (cc : ByteArray) (nL : Nat) (ret : Option FieldType) (rm : Room) : Prop :=
  (zp Z).tables.exec = Jvm.exec ∧ (zc Z).code = cc ∧ (zM Z).sig.returnType = ret ∧ (zs Z).vm.findClass own = some (zm Z).cls ∧ (zc Z).maxLocals = nL ∧
  (∀ w ∈ TBL, w.before (za Z) (zs Z) = true) ∧ KS G (zs Z) (zs Z).heap ∧ (zM Z).locks = false ∧ zR Z = rm ∧ (zl Z).stackTraces = false
section JR
variable {G : GG} {Z : ZZ} {own : String} {cc : ByteArray} {nL : Nat} {ret : Option FieldType} {rm : Room} {S : PS} {k n pc : Nat} {L : List (Option Value)} {st : List Value}
theorem CX.ks (hC : CX G Z own cc nL ret rm) : KS G (zs Z) (zs Z).heap := hC.2.2.2.2.2.2.1
theorem CX.ww (hC : CX G Z own cc nL ret rm) : ∀ w ∈ TBL, w.before (za Z) (zs Z) = true := hC.2.2.2.2.2.1
theorem CX.ow (hC : CX G Z own cc nL ret rm) : (zs Z).vm.findClass own = some (zm Z).cls := hC.2.2.2.1
theorem CX.ml (hC : CX G Z own cc nL ret rm) : (zc Z).maxLocals = nL := hC.2.2.2.2.1
theorem CX.rr (hC : CX G Z own cc nL ret rm) : zR Z = rm := hC.2.2.2.2.2.2.2.2.1
theorem CX.A (hC : CX G Z own cc nL ret rm) : ∀ q : Nat, (zs Z).heap.size ≤ q → gA G q := fun q h => Nat.le_trans hC.ks.2.2.2.2.2.2.2.2.2.2 h
/-- the cell of an address of the pool -/
theorem HW_cell {H : Heap} {a : Nat} {e : va_E} (hW : HW G S H) (hL : a ∈ pL S) (he : PF G S a = e) : ∃ q : Nat, (va_pl (pL S) (PF G S))[q]? = some (a, PF G S a) ∧ (va_pl (pL S) (PF G S))[q]? = some (a, e) := by
  obtain ⟨q, hq⟩ := va_pl_in (f := PF G S) hL
  exact ⟨q, hq, by rw [← he]; exact hq⟩
theorem J.wide {k' n' : Nat} (h1 : k ≤ k') (h2 : n ≤ n') (kk : J G Z S k' n' pc L st) : J G Z S k n pc L st := fun H locs ls hW hS hL => W.widen h1 h2 (kk H locs ls hW hS hL)
theorem J.eqS {S' : PS} (h : S' = S) (kk : J G Z S' k n pc L st) : J G Z S k n pc L st := h ▸ kk
theorem r_iload_n (hC : CX G Z own cc nL ret rm) {kf : Fin 4} {i : Nat} {x : Int32} (hd : decode cc pc = .ok (.iload_n kf, 1)) (hi : (kf : Nat) = i) (hl : L[i]? = some (some (.int x))) (kk : J G Z S k n (pc + 1) L (.int x :: st)) : J G Z S k n pc L st :=
  fun H locs ls hW hS hL => lv_iload_n hC.1 hC.2.1 hd hi (LH_get hL hl) (kk H locs ls hW hS hL)
theorem r_iload (hC : CX G Z own cc nL ret rm) {i : Nat} {x : Int32} (hd : decode cc pc = .ok (.iload i, 2)) (hl : L[i]? = some (some (.int x))) (kk : J G Z S k n (pc + 2) L (.int x :: st)) : J G Z S k n pc L st :=
  fun H locs ls hW hS hL => lv_iload hC.1 hC.2.1 hd (LH_get hL hl) (kk H locs ls hW hS hL)
theorem r_aload_n (hC : CX G Z own cc nL ret rm) {kf : Fin 4} {i : Nat} {x : Option Nat} (hd : decode cc pc = .ok (.aload_n kf, 1)) (hi : (kf : Nat) = i) (hl : L[i]? = some (some (va_rf x))) (kk : J G Z S k n (pc + 1) L (va_rf x :: st)) : J G Z S k n pc L st := by
  intro H locs ls hW hS hL
  cases x with
  | none => exact lv_aload_nN hC.1 hC.2.1 hd hi (LH_get hL hl) (kk H locs ls hW hS hL)
  | some x => exact lv_aload_n hC.1 hC.2.1 hd hi (LH_get hL hl) (kk H locs ls hW hS hL)
theorem r_aload (hC : CX G Z own cc nL ret rm) {i : Nat} {x : Option Nat} (hd : decode cc pc = .ok (.aload i, 2)) (hl : L[i]? = some (some (va_rf x))) (kk : J G Z S k n (pc + 2) L (va_rf x :: st)) : J G Z S k n pc L st := by
  intro H locs ls hW hS hL
  cases x with
  | none => exact lv_aloadN hC.1 hC.2.1 hd (LH_get hL hl) (kk H locs ls hW hS hL)
  | some x => exact lv_aload hC.1 hC.2.1 hd (LH_get hL hl) (kk H locs ls hW hS hL)
theorem r_istore_n (hC : CX G Z own cc nL ret rm) {kf : Fin 4} {i : Nat} {x : Int32} (hd : decode cc pc = .ok (.istore_n kf, 1)) (hi : (kf : Nat) = i) (hn : i < nL) (kk : J G Z S k n (pc + 1) (L.set i (some (.int x))) st) : J G Z S k n pc L (.int x :: st) :=
  fun H locs ls hW hS hL => lv_istore_n hC.1 hC.2.1 hd hi hL.1 (by rw [hC.ml]; exact hn) rfl (fun ls' h' => kk H locs ls' hW hS (LH_set hL rfl h'))
theorem r_istore (hC : CX G Z own cc nL ret rm) {i : Nat} {x : Int32} (hd : decode cc pc = .ok (.istore i, 2)) (hn : i < nL) (kk : J G Z S k n (pc + 2) (L.set i (some (.int x))) st) : J G Z S k n pc L (.int x :: st) :=
  fun H locs ls hW hS hL => lv_istore hC.1 hC.2.1 hd hL.1 (by rw [hC.ml]; exact hn) rfl (fun ls' h' => kk H locs ls' hW hS (LH_set hL rfl h'))
theorem r_astore_n (hC : CX G Z own cc nL ret rm) {kf : Fin 4} {i : Nat} {x : Option Nat} (hd : decode cc pc = .ok (.astore_n kf, 1)) (hi : (kf : Nat) = i) (hn : i < nL) (kk : J G Z S k n (pc + 1) (L.set i (some (va_rf x))) st) : J G Z S k n pc L (va_rf x :: st) := by
  intro H locs ls hW hS hL
  cases x with
  | none => exact lv_astore_nN hC.1 hC.2.1 hd hi hL.1 (by rw [hC.ml]; exact hn) rfl (fun ls' h' => kk H locs ls' hW hS (LH_set hL rfl h'))
  | some x => exact lv_astore_n hC.1 hC.2.1 hd hi hL.1 (by rw [hC.ml]; exact hn) rfl (fun ls' h' => kk H locs ls' hW hS (LH_set hL rfl h'))
theorem r_astore (hC : CX G Z own cc nL ret rm) {i : Nat} {x : Option Nat} (hd : decode cc pc = .ok (.astore i, 2)) (hn : i < nL) (kk : J G Z S k n (pc + 2) (L.set i (some (va_rf x))) st) : J G Z S k n pc L (va_rf x :: st) := by
  intro H locs ls hW hS hL
  cases x with
  | none => exact lv_astoreN hC.1 hC.2.1 hd hL.1 (by rw [hC.ml]; exact hn) rfl (fun ls' h' => kk H locs ls' hW hS (LH_set hL rfl h'))
  | some x => exact lv_astore hC.1 hC.2.1 hd hL.1 (by rw [hC.ml]; exact hn) rfl (fun ls' h' => kk H locs ls' hW hS (LH_set hL rfl h'))
theorem r_iinc (hC : CX G Z own cc nL ret rm) {i : Nat} {d : Int} {x v : Int32} (hd : decode cc pc = .ok (.iinc i d, 3)) (hl : L[i]? = some (some (.int x))) (hv : x + Int32.ofInt d = v) (kk : J G Z S k n (pc + 3) (L.set i (some (.int v))) st) : J G Z S k n pc L st := by
  intro H locs ls hW hS hL
  obtain ⟨q, hq⟩ := List.getElem?_of_mem ((mem_asc L 0 i (.int x)).mpr ⟨i, by omega, hl⟩)
  have hi : i < (zc Z).maxLocals := by rw [← hL.2.2]; exact (List.getElem?_eq_some_iff.mp hl).1
  exact lv_iinc hC.1 hC.2.1 hd hL.1 hq hv hi rfl (fun ls' h' => kk H locs ls' hW hS (LH_set hL rfl h'))
theorem r_iconst (hC : CX G Z own cc nL ret rm) {d : Int} {v : Int32} (hd : decode cc pc = .ok (.iconst d, 1)) (hv : Int32.ofInt d = v) (kk : J G Z S k n (pc + 1) L (.int v :: st)) : J G Z S k n pc L st :=
  fun H locs ls hW hS hL => lv_iconst hC.1 hC.2.1 hd hv (kk H locs ls hW hS hL)
theorem r_bipush (hC : CX G Z own cc nL ret rm) {d : Int} {v : Int32} (hd : decode cc pc = .ok (.bipush d, 2)) (hv : (Int8.ofInt d).toInt32 = v) (kk : J G Z S k n (pc + 2) L (.int v :: st)) : J G Z S k n pc L st :=
  fun H locs ls hW hS hL => lv_bipush hC.1 hC.2.1 hd hv (kk H locs ls hW hS hL)
theorem r_sipush (hC : CX G Z own cc nL ret rm) {d : Int} {v : Int32} (hd : decode cc pc = .ok (.sipush d, 3)) (hv : (Int16.ofInt d).toInt32 = v) (kk : J G Z S k n (pc + 3) L (.int v :: st)) : J G Z S k n pc L st :=
  fun H locs ls hW hS hL => lv_sipush hC.1 hC.2.1 hd hv (kk H locs ls hW hS hL)
theorem r_ldc (hC : CX G Z own cc nL ret rm) {i : Nat} {v : Int32} (hw : Cond.constant own i v ∈ TBL) (hd : decode cc pc = .ok (.ldc i, 2)) (kk : J G Z S k n (pc + 2) L (.int v :: st)) : J G Z S k n pc L st :=
  fun H locs ls hW hS hL => lv_ldc hC.1 hC.2.1 hC.ow (hC.ww _ hw) hd (kk H locs ls hW hS hL)
theorem r_null (hC : CX G Z own cc nL ret rm) (hd : decode cc pc = .ok (.aconst_null, 1)) (kk : J G Z S k n (pc + 1) L (va_rf none :: st)) : J G Z S k n pc L st :=
  fun H locs ls hW hS hL => lv_null hC.1 hC.2.1 hd (kk H locs ls hW hS hL)
theorem r_iadd (hC : CX G Z own cc nL ret rm) {x y : Int32} (hd : decode cc pc = .ok (.iadd, 1)) (kk : J G Z S k n (pc + 1) L (.int (x + y) :: st)) : J G Z S k n pc L (.int y :: .int x :: st) :=
  fun H locs ls hW hS hL => lv_iadd hC.1 hC.2.1 hd (kk H locs ls hW hS hL)
theorem r_isub (hC : CX G Z own cc nL ret rm) {x y : Int32} (hd : decode cc pc = .ok (.isub, 1)) (kk : J G Z S k n (pc + 1) L (.int (x - y) :: st)) : J G Z S k n pc L (.int y :: .int x :: st) :=
  fun H locs ls hW hS hL => lv_isub hC.1 hC.2.1 hd (kk H locs ls hW hS hL)
theorem r_imul (hC : CX G Z own cc nL ret rm) {x y : Int32} (hd : decode cc pc = .ok (.imul, 1)) (kk : J G Z S k n (pc + 1) L (.int (x * y) :: st)) : J G Z S k n pc L (.int y :: .int x :: st) :=
  fun H locs ls hW hS hL => lv_imul hC.1 hC.2.1 hd (kk H locs ls hW hS hL)
theorem r_iand (hC : CX G Z own cc nL ret rm) {x y : Int32} (hd : decode cc pc = .ok (.iand, 1)) (kk : J G Z S k n (pc + 1) L (.int (x &&& y) :: st)) : J G Z S k n pc L (.int y :: .int x :: st) :=
  fun H locs ls hW hS hL => lv_iand hC.1 hC.2.1 hd (kk H locs ls hW hS hL)
theorem r_idiv (hC : CX G Z own cc nL ret rm) {x y : Int32} (hd : decode cc pc = .ok (.idiv, 1)) (hne : ¬ y = 0) (kk : J G Z S k n (pc + 1) L (.int (x / y) :: st)) : J G Z S k n pc L (.int y :: .int x :: st) :=
  fun H locs ls hW hS hL => lv_idiv hC.1 hC.2.1 hd hne (kk H locs ls hW hS hL)
theorem r_irem (hC : CX G Z own cc nL ret rm) {x y : Int32} (hd : decode cc pc = .ok (.irem, 1)) (hne : ¬ y = 0) (kk : J G Z S k n (pc + 1) L (.int (x - x / y * y) :: st)) : J G Z S k n pc L (.int y :: .int x :: st) :=
  fun H locs ls hW hS hL => lv_irem hC.1 hC.2.1 hd hne (kk H locs ls hW hS hL)
theorem r_ineg (hC : CX G Z own cc nL ret rm) {x : Int32} (hd : decode cc pc = .ok (.ineg, 1)) (kk : J G Z S k n (pc + 1) L (.int (-x) :: st)) : J G Z S k n pc L (.int x :: st) :=
  fun H locs ls hW hS hL => lv_ineg hC.1 hC.2.1 hd (kk H locs ls hW hS hL)
theorem r_i2l (hC : CX G Z own cc nL ret rm) {x : Int32} (hd : decode cc pc = .ok (.i2l, 1)) (kk : J G Z S k n (pc + 1) L (.long x.toInt64 :: st)) : J G Z S k n pc L (.int x :: st) :=
  fun H locs ls hW hS hL => lv_i2l hC.1 hC.2.1 hd rfl (kk H locs ls hW hS hL)
theorem r_lconst (hC : CX G Z own cc nL ret rm) {d : Fin 2} {v : Int64} (hd : decode cc pc = .ok (.lconst d, 1)) (hv : Int64.ofNat (d : Nat) = v) (kk : J G Z S k n (pc + 1) L (.long v :: st)) : J G Z S k n pc L st :=
  fun H locs ls hW hS hL => lv_lconst hC.1 hC.2.1 hd hv (kk H locs ls hW hS hL)
theorem r_dup (hC : CX G Z own cc nL ret rm) {v : Value} (hd : decode cc pc = .ok (.dup, 1)) (hv : v.category = 1) (kk : J G Z S k n (pc + 1) L (v :: v :: st)) : J G Z S k n pc L (v :: st) :=
  fun H locs ls hW hS hL => lv_dup hC.1 hC.2.1 hd hv (kk H locs ls hW hS hL)
theorem r_pop (hC : CX G Z own cc nL ret rm) {v : Value} (hd : decode cc pc = .ok (.pop, 1)) (hv : v.category = 1) (kk : J G Z S k n (pc + 1) L st) : J G Z S k n pc L (v :: st) :=
  fun H locs ls hW hS hL => lv_pop hC.1 hC.2.1 hd hv (kk H locs ls hW hS hL)
theorem r_dup2 (hC : CX G Z own cc nL ret rm) {v w : Value} (hd : decode cc pc = .ok (.dup2, 1)) (hv : v.category = 1) (hw : w.category = 1) (kk : J G Z S k n (pc + 1) L (v :: w :: v :: w :: st)) : J G Z S k n pc L (v :: w :: st) :=
  fun H locs ls hW hS hL => lv_dup2_11 hC.1 hC.2.1 hd hv hw (kk H locs ls hW hS hL)
theorem r_dup_x1 (hC : CX G Z own cc nL ret rm) {v w : Value} (hd : decode cc pc = .ok (.dup_x1, 1)) (hv : v.category = 1) (hw : w.category = 1) (kk : J G Z S k n (pc + 1) L (v :: w :: v :: st)) : J G Z S k n pc L (v :: w :: st) :=
  fun H locs ls hW hS hL => lv_dup_x1 hC.1 hC.2.1 hd hv hw (kk H locs ls hW hS hL)
theorem r_goto (hC : CX G Z own cc nL ret rm) {off : Int} {tgt : Nat} (hd : decode cc pc = .ok (.goto off, 3)) (ht : (pc : Int) + off = (tgt : Int)) (kk : J G Z S k n tgt L st) : J G Z S k n pc L st :=
  fun H locs ls hW hS hL => lv_goto hC.1 hC.2.1 hd ht (kk H locs ls hW hS hL)
theorem r_tabIn (hC : CX G Z own cc nL ret rm) {dflt lo hi : Int} {offs : Array Int} {len : Nat} {x : Int32} {off : Int} {tgt : Nat} (hd : decode cc pc = .ok (.tableswitch dflt lo hi offs, len)) (h1 : ¬ x.toInt < lo) (h2 : ¬ hi < x.toInt) (ho : offs[(x.toInt - lo).toNat]? = some off) (ht : (pc : Int) + off = (tgt : Int)) (kk : J G Z S k n tgt L st) : J G Z S k n pc L (.int x :: st) :=
  fun H locs ls hW hS hL => lv_tableIn hC.1 hC.2.1 hd h1 h2 ho ht (kk H locs ls hW hS hL)
theorem r_tabOut (hC : CX G Z own cc nL ret rm) {dflt lo hi : Int} {offs : Array Int} {len : Nat} {x : Int32} {tgt : Nat} (hd : decode cc pc = .ok (.tableswitch dflt lo hi offs, len)) (h : x.toInt < lo ∨ hi < x.toInt) (ht : (pc : Int) + dflt = (tgt : Int)) (kk : J G Z S k n tgt L st) : J G Z S k n pc L (.int x :: st) :=
  fun H locs ls hW hS hL => lv_tableOut hC.1 hC.2.1 hd h ht (kk H locs ls hW hS hL)
theorem r_ifnull (hC : CX G Z own cc nL ret rm) {x : Option Nat} {off : Int} {tgt : Nat} (hd : decode cc pc = .ok (.ifnull off, 3)) (ht : (pc : Int) + off = (tgt : Int)) (kt : x = none → J G Z S k n tgt L st) (kf : ∀ y, x = some y → J G Z S k n (pc + 3) L st) : J G Z S k n pc L (va_rf x :: st) := by
  intro H locs ls hW hS hL
  cases x with
  | none => exact lv_ifnullN hC.1 hC.2.1 hd ht (kt rfl H locs ls hW hS hL)
  | some x => exact lv_ifnull hC.1 hC.2.1 hd (kf x rfl H locs ls hW hS hL)
theorem r_ifnonnull (hC : CX G Z own cc nL ret rm) {x : Option Nat} {off : Int} {tgt : Nat} (hd : decode cc pc = .ok (.ifnonnull off, 3)) (ht : (pc : Int) + off = (tgt : Int)) (kt : ∀ y, x = some y → J G Z S k n tgt L st) (kf : x = none → J G Z S k n (pc + 3) L st) : J G Z S k n pc L (va_rf x :: st) := by
  intro H locs ls hW hS hL
  cases x with
  | none => exact lv_ifnonnullN hC.1 hC.2.1 hd (kf rfl H locs ls hW hS hL)
  | some x => exact lv_ifnonnull hC.1 hC.2.1 hd ht (kt x rfl H locs ls hW hS hL)
theorem r_acmpne (hC : CX G Z own cc nL ret rm) {x y : Option Nat} {off : Int} {tgt : Nat} (hd : decode cc pc = .ok (.if_acmp .ne off, 3)) (ht : (pc : Int) + off = (tgt : Int)) (kt : ¬ x = y → J G Z S k n tgt L st) (kf : x = y → J G Z S k n (pc + 3) L st) : J G Z S k n pc L (va_rf y :: va_rf x :: st) :=
  fun H locs ls hW hS hL => lv_acmp_ne hC.1 hC.2.1 hd ht (fun c => kt c H locs ls hW hS hL) (fun c => kf c H locs ls hW hS hL)
theorem r_acmpeq (hC : CX G Z own cc nL ret rm) {x y : Option Nat} {off : Int} {tgt : Nat} (hd : decode cc pc = .ok (.if_acmp .eq off, 3)) (ht : (pc : Int) + off = (tgt : Int)) (kt : x = y → J G Z S k n tgt L st) (kf : ¬ x = y → J G Z S k n (pc + 3) L st) : J G Z S k n pc L (va_rf y :: va_rf x :: st) :=
  fun H locs ls hW hS hL => lv_acmp_eq hC.1 hC.2.1 hd ht (fun c => kt c H locs ls hW hS hL) (fun c => kf c H locs ls hW hS hL)
theorem r_ifeq (hC : CX G Z own cc nL ret rm) {x : Int32} {off : Int} {tgt : Nat} (hd : decode cc pc = .ok (.ifCond .eq off, 3)) (ht : (pc : Int) + off = (tgt : Int)) (kt : x = 0 → J G Z S k n tgt L st) (kf : ¬ x = 0 → J G Z S k n (pc + 3) L st) : J G Z S k n pc L (.int x :: st) :=
  fun H locs ls hW hS hL => lv_if_eq hC.1 hC.2.1 hd ht (fun c => kt c H locs ls hW hS hL) (fun c => kf c H locs ls hW hS hL)
theorem r_iceq (hC : CX G Z own cc nL ret rm) {x y : Int32} {off : Int} {tgt : Nat} (hd : decode cc pc = .ok (.if_icmp .eq off, 3)) (ht : (pc : Int) + off = (tgt : Int)) (kt : x = y → J G Z S k n tgt L st) (kf : ¬ x = y → J G Z S k n (pc + 3) L st) : J G Z S k n pc L (.int y :: .int x :: st) :=
  fun H locs ls hW hS hL => lv_icmp_eq hC.1 hC.2.1 hd ht (fun c => kt c H locs ls hW hS hL) (fun c => kf c H locs ls hW hS hL)
theorem r_ifne (hC : CX G Z own cc nL ret rm) {x : Int32} {off : Int} {tgt : Nat} (hd : decode cc pc = .ok (.ifCond .ne off, 3)) (ht : (pc : Int) + off = (tgt : Int)) (kt : ¬ x = 0 → J G Z S k n tgt L st) (kf : x = 0 → J G Z S k n (pc + 3) L st) : J G Z S k n pc L (.int x :: st) :=
  fun H locs ls hW hS hL => lv_if_ne hC.1 hC.2.1 hd ht (fun c => kt c H locs ls hW hS hL) (fun c => kf c H locs ls hW hS hL)
theorem r_icne (hC : CX G Z own cc nL ret rm) {x y : Int32} {off : Int} {tgt : Nat} (hd : decode cc pc = .ok (.if_icmp .ne off, 3)) (ht : (pc : Int) + off = (tgt : Int)) (kt : ¬ x = y → J G Z S k n tgt L st) (kf : x = y → J G Z S k n (pc + 3) L st) : J G Z S k n pc L (.int y :: .int x :: st) :=
  fun H locs ls hW hS hL => lv_icmp_ne hC.1 hC.2.1 hd ht (fun c => kt c H locs ls hW hS hL) (fun c => kf c H locs ls hW hS hL)
theorem r_iflt (hC : CX G Z own cc nL ret rm) {x : Int32} {off : Int} {tgt : Nat} (hd : decode cc pc = .ok (.ifCond .lt off, 3)) (ht : (pc : Int) + off = (tgt : Int)) (kt : x < 0 → J G Z S k n tgt L st) (kf : ¬ x < 0 → J G Z S k n (pc + 3) L st) : J G Z S k n pc L (.int x :: st) :=
  fun H locs ls hW hS hL => lv_if_lt hC.1 hC.2.1 hd ht (fun c => kt c H locs ls hW hS hL) (fun c => kf c H locs ls hW hS hL)
theorem r_iclt (hC : CX G Z own cc nL ret rm) {x y : Int32} {off : Int} {tgt : Nat} (hd : decode cc pc = .ok (.if_icmp .lt off, 3)) (ht : (pc : Int) + off = (tgt : Int)) (kt : x < y → J G Z S k n tgt L st) (kf : ¬ x < y → J G Z S k n (pc + 3) L st) : J G Z S k n pc L (.int y :: .int x :: st) :=
  fun H locs ls hW hS hL => lv_icmp_lt hC.1 hC.2.1 hd ht (fun c => kt c H locs ls hW hS hL) (fun c => kf c H locs ls hW hS hL)
theorem r_ifge (hC : CX G Z own cc nL ret rm) {x : Int32} {off : Int} {tgt : Nat} (hd : decode cc pc = .ok (.ifCond .ge off, 3)) (ht : (pc : Int) + off = (tgt : Int)) (kt : 0 ≤ x → J G Z S k n tgt L st) (kf : ¬ 0 ≤ x → J G Z S k n (pc + 3) L st) : J G Z S k n pc L (.int x :: st) :=
  fun H locs ls hW hS hL => lv_if_ge hC.1 hC.2.1 hd ht (fun c => kt c H locs ls hW hS hL) (fun c => kf c H locs ls hW hS hL)
theorem r_icge (hC : CX G Z own cc nL ret rm) {x y : Int32} {off : Int} {tgt : Nat} (hd : decode cc pc = .ok (.if_icmp .ge off, 3)) (ht : (pc : Int) + off = (tgt : Int)) (kt : y ≤ x → J G Z S k n tgt L st) (kf : ¬ y ≤ x → J G Z S k n (pc + 3) L st) : J G Z S k n pc L (.int y :: .int x :: st) :=
  fun H locs ls hW hS hL => lv_icmp_ge hC.1 hC.2.1 hd ht (fun c => kt c H locs ls hW hS hL) (fun c => kf c H locs ls hW hS hL)
theorem r_ifgt (hC : CX G Z own cc nL ret rm) {x : Int32} {off : Int} {tgt : Nat} (hd : decode cc pc = .ok (.ifCond .gt off, 3)) (ht : (pc : Int) + off = (tgt : Int)) (kt : 0 < x → J G Z S k n tgt L st) (kf : ¬ 0 < x → J G Z S k n (pc + 3) L st) : J G Z S k n pc L (.int x :: st) :=
  fun H locs ls hW hS hL => lv_if_gt hC.1 hC.2.1 hd ht (fun c => kt c H locs ls hW hS hL) (fun c => kf c H locs ls hW hS hL)
theorem r_icgt (hC : CX G Z own cc nL ret rm) {x y : Int32} {off : Int} {tgt : Nat} (hd : decode cc pc = .ok (.if_icmp .gt off, 3)) (ht : (pc : Int) + off = (tgt : Int)) (kt : y < x → J G Z S k n tgt L st) (kf : ¬ y < x → J G Z S k n (pc + 3) L st) : J G Z S k n pc L (.int y :: .int x :: st) :=
  fun H locs ls hW hS hL => lv_icmp_gt hC.1 hC.2.1 hd ht (fun c => kt c H locs ls hW hS hL) (fun c => kf c H locs ls hW hS hL)
theorem r_ifle (hC : CX G Z own cc nL ret rm) {x : Int32} {off : Int} {tgt : Nat} (hd : decode cc pc = .ok (.ifCond .le off, 3)) (ht : (pc : Int) + off = (tgt : Int)) (kt : x ≤ 0 → J G Z S k n tgt L st) (kf : ¬ x ≤ 0 → J G Z S k n (pc + 3) L st) : J G Z S k n pc L (.int x :: st) :=
  fun H locs ls hW hS hL => lv_if_le hC.1 hC.2.1 hd ht (fun c => kt c H locs ls hW hS hL) (fun c => kf c H locs ls hW hS hL)
theorem r_icle (hC : CX G Z own cc nL ret rm) {x y : Int32} {off : Int} {tgt : Nat} (hd : decode cc pc = .ok (.if_icmp .le off, 3)) (ht : (pc : Int) + off = (tgt : Int)) (kt : x ≤ y → J G Z S k n tgt L st) (kf : ¬ x ≤ y → J G Z S k n (pc + 3) L st) : J G Z S k n pc L (.int y :: .int x :: st) :=
  fun H locs ls hW hS hL => lv_icmp_le hC.1 hC.2.1 hd ht (fun c => kt c H locs ls hW hS hL) (fun c => kf c H locs ls hW hS hL)
/-- a field link of a class's pool place idx: field f = 32 * kd + j of the kind kd; c: 0 a number, 1 a boolean, 2 a reference; fin: final -/
def FL (own : String) (idx kd f c : Nat) (fin nst : Bool) : Prop :=
  ∃ (j : Nat) (ref C : String) (T : u_T) (N : Nat) (ty : Nat → FieldType), f = 32 * kd + j ∧ kd < 10 ∧
    (match nst with | false => Cond.fieldLink own idx ref (T j).2.1 (T j).2.2.1 ∈ TBL | true => ∃ host, Cond.fieldLinkNest own idx ref (T j).2.1 (T j).2.2.1 host ∈ TBL) ∧
    (∀ w ∈ u_ws C T N, w ∈ TBL) ∧ cls[kd]? = some (C, T, N) ∧ j < N ∧ (flds kd)[j]? = some (c == 2) ∧
    ((T j).1 = ref ∨ Cond.sameField ref (T j).1 (T j).2.1 (T j).2.2.1 ∈ TBL) ∧ (∀ i, i < N → parseFieldDescriptor (T i).2.2.1 = some (ty i)) ∧
    (∀ a, a < N → ∀ b, b < N → a ≠ b → (T a).2.1 ≠ (T b).2.1) ∧ (T j).2.2.2 = fin ∧ (c = 0 → ty j = .int) ∧ (c = 1 → ty j = .boolean) ∧
    (c = 2 → (∃ nm, ty j = .object nm) ∨ ∃ t, ty j = .array t)
def KD (S : PS) (a kd : Nat) : Prop := a ∈ pL S ∧ pK S a = kd
theorem kd_sI {a kd f x : Nat} {v : Int32} (h : KD S a kd) : KD (sI S f x v) a kd := h
theorem kd_sR {a kd f x : Nat} {v : Option Nat} (h : KD S a kd) : KD (sR S f x v) a kd := h
theorem kd_sA {a kd x : Nat} {v : Nat → Int32} (h : KD S a kd) : KD (sA S x v) a kd := h
theorem kd_sB {a kd x : Nat} {v : Nat → Option Nat} (h : KD S a kd) : KD (sB S x v) a kd := h
theorem kd_sO {a kd x kd' : Nat} (h : KD S a kd) (hx : x ∉ pL S) : KD (sO S x kd') a kd := ⟨List.mem_append_left _ h.1, by
  show va_up (pK S) x kd' a = kd
  rw [va_up_ne _ _ (fun e => hx (by rw [← e]; exact h.1))]
  exact h.2⟩
theorem kd_sW {a kd x kd' m : Nat} (h : KD S a kd) (hx : x ∉ pL S) : KD (sW S x kd' m) a kd := ⟨List.mem_append_left _ h.1, by
  show va_up (pK S) x kd' a = kd
  rw [va_up_ne _ _ (fun e => hx (by rw [← e]; exact h.1))]
  exact h.2⟩
theorem kd_newO {x kd : Nat} : KD (sO S x kd) x kd := ⟨List.mem_append_right _ (List.mem_singleton.mpr rfl), va_up_self _ _ _⟩
theorem kd_newW {x kd m : Nat} : KD (sW S x kd m) x kd := ⟨List.mem_append_right _ (List.mem_singleton.mpr rfl), va_up_self _ _ _⟩
theorem kd_ne {a b ka kb : Nat} (ha : KD S a ka) (hb : KD S b kb) (h : ka ≠ kb) : a ≠ b := fun e => h (by rw [← ha.2, ← hb.2, e])
theorem fl_get (hC : CX G Z own cc nL ret rm) {idx kd f c a : Nat} {fin nst : Bool} {v : Value} (hF : FL own idx kd f c fin nst) (hd : decode cc pc = .ok (.getfield idx, 3)) (ha : KD S a kd)
    (hv : (if c == 2 then va_rf (pR S f a) else .int (pI S f a)) = v) (kk : J G Z S k n (pc + 3) L (v :: st)) : J G Z S k n pc L (.ref a :: st) := by
  obtain ⟨j, ref, C, T, N, ty, rfl, h10, hlink, hin, hc, hj, hfl, hsame, -⟩ := hF
  intro H locs ls hW hS hL
  obtain ⟨q, -, hq⟩ := HW_cell hW ha.1 (PF_obj ha.2 h10)
  have hfv : (PFf S kd a (flds kd) 0)[j]? = some v := by
    rw [PFf_get S kd a (flds kd) 0 j (c == 2) hfl, Nat.zero_add]
    exact congrArg some hv
  have hin' : ∀ w ∈ u_ws C T N, w ∈ TBL := hin
  have hsm : ∀ x, (zs Z).fieldFound? (T j).1 (T j).2.1 (T j).2.2.1 = some x → (zs Z).fieldFound? ref (T j).2.1 (T j).2.2.1 = some x := by
    intro x hx
    rcases hsame with h | h
    · rw [← h]; exact hx
    · exact u_same (hC.ww _ h) x hx
  cases nst
  · have h := hlink
    exact va_get hC.1 hC.2.1 hC.ww hin' hC.ow hC.ks.1 hW.1 q hq hc j hj (hC.ww _ h) hsm hfv hd (kk H locs ls hW hS hL)
  · obtain ⟨host, h⟩ := hlink
    exact va_getN hC.1 hC.2.1 hC.ww hin' hC.ow hC.ks.1 hW.1 q hq hc j hj (hC.ww _ h) hsm hfv hd (kk H locs ls hW hS hL)
theorem r_getI (hC : CX G Z own cc nL ret rm) {idx kd f c a : Nat} {fin nst : Bool} {x : Int32} (hF : FL own idx kd f c fin nst) (h2 : (c == 2) = false) (hd : decode cc pc = .ok (.getfield idx, 3)) (ha : KD S a kd) (hx : pI S f a = x) (kk : J G Z S k n (pc + 3) L (.int x :: st)) : J G Z S k n pc L (va_rf (some a) :: st) :=
  fl_get hC hF hd ha (by rw [h2, ← hx]; rfl) kk
theorem r_getR (hC : CX G Z own cc nL ret rm) {idx kd f a : Nat} {fin nst : Bool} {x : Option Nat} (hF : FL own idx kd f 2 fin nst) (hd : decode cc pc = .ok (.getfield idx, 3)) (ha : KD S a kd) (hx : pR S f a = x) (kk : J G Z S k n (pc + 3) L (va_rf x :: st)) : J G Z S k n pc L (va_rf (some a) :: st) :=
  fl_get hC hF hd ha (by rw [← hx]; rfl) kk
theorem HW_putI {H H1 : Heap} {a kd j q : Nat} {v : Int32} (hW : HW G S H) (ha : KD S a kd) (h10 : kd < 10) (hj : (flds kd)[j]? = some false) (hq : (va_pl (pL S) (PF G S))[q]? = some (a, PF G S a))
    (h1 : va_P (gD G) cls ((va_pl (pL S) (PF G S)).set q (a, .inr (kd, (PFf S kd a (flds kd) 0).set j (.int v)))) H1) (h2 : va_D (gA G) ((va_pl (pL S) (PF G S)).set q (a, .inr (kd, (PFf S kd a (flds kd) 0).set j (.int v))))) : HW G (sI S (32 * kd + j) a v) H1 := by
  have e : (va_pl (pL S) (PF G S)).set q (a, .inr (kd, (PFf S kd a (flds kd) 0).set j (.int v))) = va_pl (pL (sI S (32 * kd + j) a v)) (PF G (sI S (32 * kd + j) a v)) := by
    rw [va_pl_put hW.2 ha.1 hq]
    exact va_pl_congr (PF_upI ha.2 h10 hj)
  rw [e] at h1 h2
  exact ⟨h1, h2⟩
theorem HW_putR {H H1 : Heap} {a kd j q : Nat} {v : Option Nat} (hW : HW G S H) (ha : KD S a kd) (h10 : kd < 10) (hj : (flds kd)[j]? = some true) (hq : (va_pl (pL S) (PF G S))[q]? = some (a, PF G S a))
    (h1 : va_P (gD G) cls ((va_pl (pL S) (PF G S)).set q (a, .inr (kd, (PFf S kd a (flds kd) 0).set j (va_rf v)))) H1) (h2 : va_D (gA G) ((va_pl (pL S) (PF G S)).set q (a, .inr (kd, (PFf S kd a (flds kd) 0).set j (va_rf v))))) : HW G (sR S (32 * kd + j) a v) H1 := by
  have e : (va_pl (pL S) (PF G S)).set q (a, .inr (kd, (PFf S kd a (flds kd) 0).set j (va_rf v))) = va_pl (pL (sR S (32 * kd + j) a v)) (PF G (sR S (32 * kd + j) a v)) := by
    rw [va_pl_put hW.2 ha.1 hq]
    exact va_pl_congr (PF_upR ha.2 h10 hj)
  rw [e] at h1 h2
  exact ⟨h1, h2⟩
theorem fit_num {c : Nat} {t : FieldType} {v : Int32} (h2 : (c == 2) = false) (hc : c < 3) (h0 : c = 0 → t = .int) (h1 : c = 1 → t = .boolean) (hv : c = 1 → v = 0 ∨ v = 1) : narrow t (.int v) = .int v ∧ fits t (.int v) = true := by
  have : c = 0 ∨ c = 1 := by
    rcases (show c = 0 ∨ c = 1 ∨ c = 2 by omega) with h | h | h
    · exact Or.inl h
    · exact Or.inr h
    · subst h; simp at h2
  rcases this with h | h
  · rw [h0 h]; exact ⟨rfl, rfl⟩
  · rw [h1 h]
    rcases hv h with e | e <;> subst e <;> exact ⟨rfl, rfl⟩
theorem r_putI (hC : CX G Z own cc nL ret rm) {idx kd f c a : Nat} {v : Int32} {nst : Bool} (hF : FL own idx kd f c false nst) (h2 : (c == 2) = false) (hc3 : c < 3) (hd : decode cc pc = .ok (.putfield idx, 3)) (ha : KD S a kd) (hv : c = 1 → v = 0 ∨ v = 1) (kk : J G Z (sI S f a v) k n (pc + 3) L st) : J G Z S k n pc L (.int v :: va_rf (some a) :: st) := by
  obtain ⟨j, ref, C, T, N, ty, rfl, h10, hlink, hin, hc, hj, hfl, hsame, hty, hnm, hfin, t0, t1, -⟩ := hF
  rw [h2] at hfl
  intro H locs ls hW hS hL
  obtain ⟨q, hq0, hq⟩ := HW_cell hW ha.1 (PF_obj ha.2 h10)
  have hsm : ∀ x, (zs Z).fieldFound? (T j).1 (T j).2.1 (T j).2.2.1 = some x → (zs Z).fieldFound? ref (T j).2.1 (T j).2.2.1 = some x := by
    intro x hx
    rcases hsame with h | h
    · rw [← h]; exact hx
    · exact u_same (hC.ww _ h) x hx
  have hft := fit_num (v := v) h2 hc3 t0 t1 hv
  have hlen : j < (PFf S kd a (flds kd) 0).length := by rw [PFf_len]; exact (List.getElem?_eq_some_iff.mp hfl).1
  cases nst
  · have h := hlink
    exact va_put hC.1 hC.2.1 hC.ww hin ty hty hnm hC.ow hC.ks.1 hW.1 hW.2 hS q hq hc j hj (hC.ww _ h) hsm hfin (hty j hj) hft.1 hft.2 hlen hd (fun H1 locs1 p1 p2 p3 => kk H1 locs1 ls (HW_putI hW ha h10 hfl hq0 p1 p2) p3 hL)
  · obtain ⟨host, h⟩ := hlink
    exact va_putN hC.1 hC.2.1 hC.ww hin ty hty hnm hC.ow hC.ks.1 hW.1 hW.2 hS q hq hc j hj (hC.ww _ h) hsm hfin (hty j hj) hft.1 hft.2 hlen hd (fun H1 locs1 p1 p2 p3 => kk H1 locs1 ls (HW_putI hW ha h10 hfl hq0 p1 p2) p3 hL)
theorem fit_ref {t : FieldType} {v : Option Nat} (h : (∃ nm, t = .object nm) ∨ ∃ u, t = .array u) : narrow t (va_rf v) = va_rf v ∧ fits t (va_rf v) = true := by
  rcases h with ⟨nm, rfl⟩ | ⟨u, rfl⟩ <;> cases v <;> exact ⟨rfl, rfl⟩
theorem r_putR (hC : CX G Z own cc nL ret rm) {idx kd f a : Nat} {v : Option Nat} {nst : Bool} (hF : FL own idx kd f 2 false nst) (hd : decode cc pc = .ok (.putfield idx, 3)) (ha : KD S a kd) (kk : J G Z (sR S f a v) k n (pc + 3) L st) : J G Z S k n pc L (va_rf v :: va_rf (some a) :: st) := by
  obtain ⟨j, ref, C, T, N, ty, rfl, h10, hlink, hin, hc, hj, hfl, hsame, hty, hnm, hfin, t0, t1, t2⟩ := hF
  have hfl : (flds kd)[j]? = some true := hfl
  intro H locs ls hW hS hL
  obtain ⟨q, hq0, hq⟩ := HW_cell hW ha.1 (PF_obj ha.2 h10)
  have hsm : ∀ x, (zs Z).fieldFound? (T j).1 (T j).2.1 (T j).2.2.1 = some x → (zs Z).fieldFound? ref (T j).2.1 (T j).2.2.1 = some x := by
    intro x hx
    rcases hsame with h | h
    · rw [← h]; exact hx
    · exact u_same (hC.ww _ h) x hx
  have hft := fit_ref (v := v) (t2 rfl)
  have hlen : j < (PFf S kd a (flds kd) 0).length := by rw [PFf_len]; exact (List.getElem?_eq_some_iff.mp hfl).1
  cases nst
  · have h := hlink
    exact va_put hC.1 hC.2.1 hC.ww hin ty hty hnm hC.ow hC.ks.1 hW.1 hW.2 hS q hq hc j hj (hC.ww _ h) hsm hfin (hty j hj) hft.1 hft.2 hlen hd (fun H1 locs1 p1 p2 p3 => kk H1 locs1 ls (HW_putR hW ha h10 hfl hq0 p1 p2) p3 hL)
  · obtain ⟨host, h⟩ := hlink
    exact va_putN hC.1 hC.2.1 hC.ww hin ty hty hnm hC.ow hC.ks.1 hW.1 hW.2 hS q hq hc j hj (hC.ww _ h) hsm hfin (hty j hj) hft.1 hft.2 hlen hd (fun H1 locs1 p1 p2 p3 => kk H1 locs1 ls (HW_putR hW ha h10 hfl hq0 p1 p2) p3 hL)
/-- a final field, in its class's constructor -/
theorem r_putFI (hC : CX G Z own cc nL ret rm) (hi : (zM Z).name = "<init>") {idx kd f c a : Nat} {v : Int32} (hF : FL own idx kd f c true false) (ho : cls[kd]?.map (fun q => (q.2.1 (f - 32 * kd)).1) = some own) (h2 : (c == 2) = false) (hc3 : c < 3) (hd : decode cc pc = .ok (.putfield idx, 3)) (ha : KD S a kd) (hv : c = 1 → v = 0 ∨ v = 1) (kk : J G Z (sI S f a v) k n (pc + 3) L st) : J G Z S k n pc L (.int v :: va_rf (some a) :: st) := by
  obtain ⟨j, ref, C, T, N, ty, rfl, h10, hlink, hin, hc, hj, hfl, hsame, hty, hnm, hfin, t0, t1, -⟩ := hF
  rw [h2] at hfl
  intro H locs ls hW hS hL
  obtain ⟨q, hq0, hq⟩ := HW_cell hW ha.1 (PF_obj ha.2 h10)
  have hsm : ∀ x, (zs Z).fieldFound? (T j).1 (T j).2.1 (T j).2.2.1 = some x → (zs Z).fieldFound? ref (T j).2.1 (T j).2.2.1 = some x := by
    intro x hx
    rcases hsame with h | h
    · rw [← h]; exact hx
    · exact u_same (hC.ww _ h) x hx
  have hft := fit_num (v := v) h2 hc3 t0 t1 hv
  have hlen : j < (PFf S kd a (flds kd) 0).length := by rw [PFf_len]; exact (List.getElem?_eq_some_iff.mp hfl).1
  have hdecl : (T j).1 = own := by
    rw [hc, Option.map_some, Nat.add_sub_cancel_left] at ho
    exact Option.some.inj ho
  have h := hlink
  exact va_putF hC.1 hC.2.1 hC.ww hin ty hty hnm hC.ow hC.ks.1 hW.1 hW.2 hS q hq hc j hj (hC.ww _ h) hsm hfin hi hdecl (hty j hj) hft.1 hft.2 hlen hd (fun H1 locs1 p1 p2 p3 => kk H1 locs1 ls (HW_putI hW ha h10 hfl hq0 p1 p2) p3 hL)
theorem r_putFR (hC : CX G Z own cc nL ret rm) (hi : (zM Z).name = "<init>") {idx kd f a : Nat} {v : Option Nat} (hF : FL own idx kd f 2 true false) (ho : cls[kd]?.map (fun q => (q.2.1 (f - 32 * kd)).1) = some own) (hd : decode cc pc = .ok (.putfield idx, 3)) (ha : KD S a kd) (kk : J G Z (sR S f a v) k n (pc + 3) L st) : J G Z S k n pc L (va_rf v :: va_rf (some a) :: st) := by
  obtain ⟨j, ref, C, T, N, ty, rfl, h10, hlink, hin, hc, hj, hfl, hsame, hty, hnm, hfin, t0, t1, t2⟩ := hF
  have hfl : (flds kd)[j]? = some true := hfl
  intro H locs ls hW hS hL
  obtain ⟨q, hq0, hq⟩ := HW_cell hW ha.1 (PF_obj ha.2 h10)
  have hsm : ∀ x, (zs Z).fieldFound? (T j).1 (T j).2.1 (T j).2.2.1 = some x → (zs Z).fieldFound? ref (T j).2.1 (T j).2.2.1 = some x := by
    intro x hx
    rcases hsame with h | h
    · rw [← h]; exact hx
    · exact u_same (hC.ww _ h) x hx
  have hft := fit_ref (v := v) (t2 rfl)
  have hlen : j < (PFf S kd a (flds kd) 0).length := by rw [PFf_len]; exact (List.getElem?_eq_some_iff.mp hfl).1
  have hdecl : (T j).1 = own := by
    rw [hc, Option.map_some, Nat.add_sub_cancel_left] at ho
    exact Option.some.inj ho
  have h := hlink
  exact va_putF hC.1 hC.2.1 hC.ww hin ty hty hnm hC.ow hC.ks.1 hW.1 hW.2 hS q hq hc j hj (hC.ww _ h) hsm hfin hi hdecl (hty j hj) hft.1 hft.2 hlen hd (fun H1 locs1 p1 p2 p3 => kk H1 locs1 ls (HW_putR hW ha h10 hfl hq0 p1 p2) p3 hL)
/-! rows of numbers, of references, of longs -/
theorem HW_putA {H H1 : Heap} {a kd q : Nat} {g : Nat → Int32} (hW : HW G S H) (ha : KD S a kd) (h1 : 10 ≤ kd) (h2 : kd < 12) (hq : (va_pl (pL S) (PF G S))[q]? = some (a, PF G S a))
    (p1 : va_P (gD G) cls ((va_pl (pL S) (PF G S)).set q (a, .inl (gC G kd, pN S a, .inl g))) H1) (p2 : va_D (gA G) ((va_pl (pL S) (PF G S)).set q (a, .inl (gC G kd, pN S a, .inl g)))) : HW G (sA S a g) H1 := by
  have e : (va_pl (pL S) (PF G S)).set q (a, .inl (gC G kd, pN S a, .inl g)) = va_pl (pL (sA S a g)) (PF G (sA S a g)) := by
    rw [va_pl_put hW.2 ha.1 hq]
    exact va_pl_congr (PF_upA ha.2 h1 h2)
  rw [e] at p1 p2
  exact ⟨p1, p2⟩
theorem HW_putB {H H1 : Heap} {a kd q : Nat} {g : Nat → Option Nat} (hW : HW G S H) (ha : KD S a kd) (h1 : 12 ≤ kd) (h2 : kd < 14) (hq : (va_pl (pL S) (PF G S))[q]? = some (a, PF G S a))
    (p1 : va_P (gD G) cls ((va_pl (pL S) (PF G S)).set q (a, .inl (gC G kd, pN S a, .inr (.inr (.inr (.inr g)))))) H1) (p2 : va_D (gA G) ((va_pl (pL S) (PF G S)).set q (a, .inl (gC G kd, pN S a, .inr (.inr (.inr (.inr g))))))) : HW G (sB S a g) H1 := by
  have e : (va_pl (pL S) (PF G S)).set q (a, .inl (gC G kd, pN S a, .inr (.inr (.inr (.inr g))))) = va_pl (pL (sB S a g)) (PF G (sB S a g)) := by
    rw [va_pl_put hW.2 ha.1 hq]
    exact va_pl_congr (PF_upB ha.2 h1 h2)
  rw [e] at p1 p2
  exact ⟨p1, p2⟩
theorem HW_putJ {H H1 : Heap} {a q : Nat} {g : Nat → Int64} (hW : HW G S H) (ha : KD S a 14) (hq : (va_pl (pL S) (PF G S))[q]? = some (a, PF G S a))
    (p1 : va_P (gD G) cls ((va_pl (pL S) (PF G S)).set q (a, .inl (gC G 14, pN S a, .inr (.inl g)))) H1) (p2 : va_D (gA G) ((va_pl (pL S) (PF G S)).set q (a, .inl (gC G 14, pN S a, .inr (.inl g))))) : HW G (sJ S a g) H1 := by
  have e : (va_pl (pL S) (PF G S)).set q (a, .inl (gC G 14, pN S a, .inr (.inl g))) = va_pl (pL (sJ S a g)) (PF G (sJ S a g)) := by
    rw [va_pl_put hW.2 ha.1 hq]
    exact va_pl_congr (PF_upJ ha.2)
  rw [e] at p1 p2
  exact ⟨p1, p2⟩
theorem r_iald (hC : CX G Z own cc nL ret rm) {a j : Nat} {i x : Int32} (hd : decode cc pc = .ok (.iaload, 1)) (ha : KD S a 10) (hi : i = nI j) (hj : j < pN S a) (hN : pN S a < 2147483648) (hx : pA S a j = x) (kk : J G Z S k n (pc + 1) L (.int x :: st)) : J G Z S k n pc L (.int i :: va_rf (some a) :: st) := by
  intro H locs ls hW hS hL
  obtain ⟨q, hq0, hq⟩ := HW_cell hW ha.1 (PF_num ha.2 (by omega) (by omega))
  subst hi hx
  refine va_iald hC.1 hC.2.1 hC.ks.1 hW.1 q 0 hq rfl (vp_in_nI hj (by omega)) hd ?_
  rw [nI_clamp (by omega)]
  exact kk H locs ls hW hS hL
theorem r_zald (hC : CX G Z own cc nL ret rm) {a j : Nat} {i x : Int32} (hd : decode cc pc = .ok (.baload, 1)) (ha : KD S a 11) (hi : i = nI j) (hj : j < pN S a) (hN : pN S a < 2147483648) (hx : pA S a j = x) (kk : J G Z S k n (pc + 1) L (.int x :: st)) : J G Z S k n pc L (.int i :: va_rf (some a) :: st) := by
  intro H locs ls hW hS hL
  obtain ⟨q, hq0, hq⟩ := HW_cell hW ha.1 (PF_num ha.2 (by omega) (by omega))
  subst hi hx
  refine va_zald hC.1 hC.2.1 hC.ks.1 hW.1 q 1 hq rfl (vp_in_nI hj (by omega)) hd ?_
  rw [nI_clamp (by omega)]
  exact kk H locs ls hW hS hL
theorem r_aald (hC : CX G Z own cc nL ret rm) {a j kd : Nat} {i : Int32} {x : Option Nat} (hd : decode cc pc = .ok (.aaload, 1)) (ha : KD S a kd) (hkd : kd = 12 ∨ kd = 13) (hi : i = nI j) (hj : j < pN S a) (hN : pN S a < 2147483648) (hx : pB S a j = x) (kk : J G Z S k n (pc + 1) L (va_rf x :: st)) : J G Z S k n pc L (.int i :: va_rf (some a) :: st) := by
  intro H locs ls hW hS hL
  obtain ⟨q, hq0, hq⟩ := HW_cell hW ha.1 (PF_ref ha.2 (by omega) (by omega))
  subst hi hx
  have kk' := kk H locs ls hW hS hL
  rcases hkd with rfl | rfl
  · refine va_aldq hC.1 hC.2.1 hC.ks.1 hW.1 q 2 hq rfl (vp_in_nI hj (by omega)) hd ?_
    rw [nI_clamp (by omega)]
    exact kk'
  · refine va_aldq hC.1 hC.2.1 hC.ks.1 hW.1 q 3 hq rfl (vp_in_nI hj (by omega)) hd ?_
    rw [nI_clamp (by omega)]
    exact kk'
theorem r_lald (hC : CX G Z own cc nL ret rm) {a j : Nat} {i : Int32} {x : Int64} (hd : decode cc pc = .ok (.laload, 1)) (ha : KD S a 14) (hi : i = nI j) (hj : j < pN S a) (hN : pN S a < 2147483648) (hx : pJ S a j = x) (kk : J G Z S k n (pc + 1) L (.long x :: st)) : J G Z S k n pc L (.int i :: va_rf (some a) :: st) := by
  intro H locs ls hW hS hL
  obtain ⟨q, hq0, hq⟩ := HW_cell hW ha.1 (PF_lng ha.2)
  subst hi hx
  refine va_lald hC.1 hC.2.1 hC.ks.1 hW.1 q 4 hq rfl (vp_in_nI hj (by omega)) hd ?_
  rw [nI_clamp (by omega)]
  exact kk H locs ls hW hS hL
theorem r_iast (hC : CX G Z own cc nL ret rm) {a j : Nat} {i x : Int32} (hd : decode cc pc = .ok (.iastore, 1)) (ha : KD S a 10) (hi : i = nI j) (hj : j < pN S a) (hN : pN S a < 2147483648) (kk : J G Z (sA S a (upd (pA S a) j x)) k n (pc + 1) L st) : J G Z S k n pc L (.int x :: .int i :: va_rf (some a) :: st) := by
  intro H locs ls hW hS hL
  obtain ⟨q, hq0, hq⟩ := HW_cell hW ha.1 (PF_num ha.2 (by omega) (by omega))
  subst hi
  refine va_iast hC.1 hC.2.1 hC.ks.1 hW.1 hW.2 hS q 0 hq rfl (vp_in_nI hj (by omega)) hd (fun H1 locs1 p1 p2 p3 => ?_)
  rw [nI_clamp (by omega)] at p1 p2
  exact kk H1 locs1 ls (HW_putA hW ha (by omega) (by omega) hq0 p1 p2) p3 hL
theorem r_zast (hC : CX G Z own cc nL ret rm) {a j : Nat} {i x : Int32} (hd : decode cc pc = .ok (.bastore, 1)) (ha : KD S a 11) (hi : i = nI j) (hj : j < pN S a) (hN : pN S a < 2147483648) (hx : x = 0 ∨ x = 1) (kk : J G Z (sA S a (upd (pA S a) j x)) k n (pc + 1) L st) : J G Z S k n pc L (.int x :: .int i :: va_rf (some a) :: st) := by
  intro H locs ls hW hS hL
  obtain ⟨q, hq0, hq⟩ := HW_cell hW ha.1 (PF_num ha.2 (by omega) (by omega))
  subst hi
  refine va_zast hC.1 hC.2.1 hC.ks.1 hW.1 hW.2 hS q 1 hq rfl (vp_in_nI hj (by omega)) hd (fun H1 locs1 p1 p2 p3 => ?_)
  rw [nI_clamp (by omega), show vp_nar .boolean x = x by rcases hx with e | e <;> subst e <;> rfl] at p1 p2
  exact kk H1 locs1 ls (HW_putA hW ha (by omega) (by omega) hq0 p1 p2) p3 hL
theorem r_last (hC : CX G Z own cc nL ret rm) {a j : Nat} {i : Int32} {x : Int64} (hd : decode cc pc = .ok (.lastore, 1)) (ha : KD S a 14) (hi : i = nI j) (hj : j < pN S a) (hN : pN S a < 2147483648) (kk : J G Z (sJ S a (vp_updL (pJ S a) j x)) k n (pc + 1) L st) : J G Z S k n pc L (.long x :: .int i :: va_rf (some a) :: st) := by
  intro H locs ls hW hS hL
  obtain ⟨q, hq0, hq⟩ := HW_cell hW ha.1 (PF_lng ha.2)
  subst hi
  refine va_last hC.1 hC.2.1 hC.ks.1 hW.1 hW.2 hS q 4 hq rfl (vp_in_nI hj (by omega)) hd (fun H1 locs1 p1 p2 p3 => ?_)
  rw [nI_clamp (by omega)] at p1 p2
  exact kk H1 locs1 ls (HW_putJ hW ha hq0 p1 p2) p3 hL
/-- a leaf, or null, into a row of leaves -/
theorem r_aastL (hC : CX G Z own cc nL ret rm) {a j : Nat} {i : Int32} {v : Option Nat} (hd : decode cc pc = .ok (.aastore, 1)) (ha : KD S a 12) (hi : i = nI j) (hj : j < pN S a) (hN : pN S a < 2147483648) (hv : ∀ y, v = some y → KD S y 3) (kk : J G Z (sB S a (va_up (pB S a) j v)) k n (pc + 1) L st) : J G Z S k n pc L (va_rf v :: .int i :: va_rf (some a) :: st) := by
  intro H locs ls hW hS hL
  obtain ⟨q, hq0, hq⟩ := HW_cell hW ha.1 (PF_ref ha.2 (by omega) (by omega))
  subst hi
  cases v with
  | none =>
    refine va_astqN hC.1 hC.2.1 hC.ks.1 hW.1 hW.2 hS q 2 hq rfl (vp_in_nI hj (by omega)) hd (fun H1 locs1 p1 p2 p3 => ?_)
    rw [nI_clamp (by omega)] at p1 p2
    exact kk H1 locs1 ls (HW_putB hW ha (by omega) (by omega) hq0 p1 p2) p3 hL
  | some y =>
    obtain ⟨q2, -, hq2⟩ := HW_cell hW (hv y rfl).1 (PF_obj (hv y rfl).2 (by omega))
    refine va_astq hC.1 hC.2.1 hC.ks.1 hW.1 hW.2 hS q 2 q2 3 (r := (RX3, TX3, 6)) hq rfl hq2 rfl (vp_in_nI hj (by omega)) hd (fun H1 locs1 p1 p2 p3 => ?_)
    rw [nI_clamp (by omega)] at p1 p2
    exact kk H1 locs1 ls (HW_putB hW ha (by omega) (by omega) hq0 p1 p2) p3 hL
/-- an object of the kind kd into a row of Objects -/
theorem r_aastO (hC : CX G Z own cc nL ret rm) {a j kd v : Nat} {i : Int32} {r : vw_C} (hd : decode cc pc = .ok (.aastore, 1)) (ha : KD S a 13) (hi : i = nI j) (hj : j < pN S a) (hN : pN S a < 2147483648) (hv : KD S v kd) (h10 : kd < 10) (hr : cls[kd]? = some r) (hw : Cond.castable r.1 "java/lang/Object" ∈ TBL) (kk : J G Z (sB S a (va_up (pB S a) j (some v))) k n (pc + 1) L st) : J G Z S k n pc L (va_rf (some v) :: .int i :: va_rf (some a) :: st) := by
  intro H locs ls hW hS hL
  obtain ⟨q, hq0, hq⟩ := HW_cell hW ha.1 (PF_ref ha.2 (by omega) (by omega))
  obtain ⟨q2, -, hq2⟩ := HW_cell hW hv.1 (PF_obj hv.2 h10)
  subst hi
  refine va_astqO hC.1 hC.2.1 hC.ks.1 hW.1 hW.2 hS q 3 q2 kd (r := r) hq rfl (va_Nw.of rfl (hC.ww _ hw)) hq2 hr (vp_in_nI hj (by omega)) hd (fun H1 locs1 p1 p2 p3 => ?_)
  rw [nI_clamp (by omega)] at p1 p2
  exact kk H1 locs1 ls (HW_putB hW ha (by omega) (by omega) hq0 p1 p2) p3 hL
theorem r_alen (hC : CX G Z own cc nL ret rm) {a kd : Nat} (hd : decode cc pc = .ok (.arraylength, 1)) (ha : KD S a kd) (h1 : 10 ≤ kd) (h2 : kd < 15) {N : Nat} (hN : pN S a = N) (kk : J G Z S k n (pc + 1) L (.int (nI N) :: st)) : J G Z S k n pc L (va_rf (some a) :: st) := by
  intro H locs ls hW hS hL
  subst hN
  have kk' := kk H locs ls hW hS hL
  rcases (show kd = 10 ∨ kd = 11 ∨ kd = 12 ∨ kd = 13 ∨ kd = 14 by omega) with rfl | rfl | rfl | rfl | rfl
  · obtain ⟨q, hq0, hq⟩ := HW_cell hW ha.1 (PF_num ha.2 (by omega) (by omega))
    exact va_alen hC.1 hC.2.1 hC.ks.1 hW.1 q 0 hq rfl rfl hd kk'
  · obtain ⟨q, hq0, hq⟩ := HW_cell hW ha.1 (PF_num ha.2 (by omega) (by omega))
    exact va_alen hC.1 hC.2.1 hC.ks.1 hW.1 q 1 hq rfl rfl hd kk'
  · obtain ⟨q, hq0, hq⟩ := HW_cell hW ha.1 (PF_ref ha.2 (by omega) (by omega))
    exact va_alen hC.1 hC.2.1 hC.ks.1 hW.1 q 2 hq rfl rfl hd kk'
  · obtain ⟨q, hq0, hq⟩ := HW_cell hW ha.1 (PF_ref ha.2 (by omega) (by omega))
    exact va_alen hC.1 hC.2.1 hC.ks.1 hW.1 q 3 hq rfl rfl hd kk'
  · obtain ⟨q, hq0, hq⟩ := HW_cell hW ha.1 (PF_lng ha.2)
    exact va_alen hC.1 hC.2.1 hC.ks.1 hW.1 q 4 hq rfl rfl hd kk'
/-! new objects and rows -/
def NW (own : String) (idx kd N : Nat) : Prop := ∃ (C : String) (T : u_T) (ty : Nat → FieldType), kd < 10 ∧ Cond.classLink own idx C ∈ TBL ∧ Cond.instantiable C N ∈ TBL ∧ Cond.initialized C ∈ TBL ∧
  (∀ w ∈ u_ws C T N, w ∈ TBL) ∧ (∀ i, i < N → parseFieldDescriptor (T i).2.2.1 = some (ty i)) ∧ cls[kd]? = some (C, T, N) ∧ ∀ i, i < N → defaultValue (ty i) = vp_V (dflt kd) i
theorem r_new (hC : CX G Z own cc nL ret rm) {idx kd N : Nat} (hn : NW own idx kd N) (hd : decode cc pc = .ok (.new idx, 3)) (hk : k + 1 ≤ rm.cells) (hs : n + N ≤ rm.slots)
    (kk : ∀ q : Nat, q ∉ pL S → G.1 ≤ q → J G Z (sO S q kd) (k + 1) (n + N) (pc + 3) L (va_rf (some q) :: st)) : J G Z S k n pc L st := by
  obtain ⟨C, T, ty, h10, w1, w2, w3, hin, hty, hc, hdf⟩ := hn
  intro H locs ls hW hS hL
  refine va_new (ci := kd) (fs := dflt kd) hC.1 hC.2.1 hC.ww hin ty hty hC.ow (hC.ww _ w1) (hC.ww _ w2) (hC.ww _ w3) hC.ks.1 hW.1 hW.2 hS hC.A hc hdf (by rw [hC.rr]; exact hk) (by rw [hC.rr]; exact hs) hd (fun q H1 p1 p2 p3 => ?_)
  have hq := nin_of_D p2
  have hG : G.1 ≤ q := p2.2 (va_pl (pL S) (PF G S)).length (q, _) (by rw [List.getElem?_append_right (Nat.le_refl _), Nat.sub_self]; rfl)
  rw [PF_newO hq h10] at p1 p2
  exact kk q hq hG H1 locs ls ⟨p1, p2⟩ p3 hL
theorem r_newI (hC : CX G Z own cc nL ret rm) {i : Int32} {N : Nat} (hw : Cond.arrayClass .int ∈ TBL) (hi : i = nI N) (hN : N ≤ 65536) (hd : decode cc pc = .ok (.newarray .int, 2)) (hk : k + 1 ≤ rm.cells) (hs : n + N ≤ rm.slots)
    (kk : ∀ q : Nat, q ∉ pL S → G.1 ≤ q → J G Z (sW S q 10 N) (k + 1) (n + N) (pc + 2) L (va_rf (some q) :: st)) : J G Z S k n pc L (.int i :: st) := by
  intro H locs ls hW hS hL
  subst hi
  refine va_newa (atype := .int) (ty := .int) (a0 := (N, .inl (fun _ => 0))) (N' := N) hC.1 hC.2.1 (hC.ww _ hw) rfl hC.ks.1 hW.1 hW.2 hS hC.A (fun cA => rfl) (nI_pos (by omega)) (nI_clamp (by omega)) (by show N * 4 ≤ 536870912; omega) (by rw [hC.rr]; exact hk) (by rw [hC.rr]; exact hs) hd (fun q cA H1 pk p1 p2 p3 => ?_)
  have hq := nin_of_D p2
  have hG : G.1 ≤ q := p2.2 (va_pl (pL S) (PF G S)).length (q, _) (by rw [List.getElem?_append_right (Nat.le_refl _), Nat.sub_self]; rfl)
  have e1 : (zs Z).vm.findClass ("[" ++ (FieldType.int).toString) = some cA := (pk.2 5 (cA, .int) rfl).2
  have e2 : (zs Z).vm.findClass ("[" ++ (FieldType.int).toString) = some (gC G 10) := (hC.ks.1.2 0 (gC G 10, .int) rfl).2
  have e3 : cA = gC G 10 := Option.some.inj (e1.symm.trans e2)
  subst e3
  rw [PF_newW hq (PF_newN (by omega) (by omega))] at p1 p2
  exact kk q hq hG H1 locs ls ⟨p1, p2⟩ p3 hL
theorem r_newZ (hC : CX G Z own cc nL ret rm) {i : Int32} {N : Nat} (hw : Cond.arrayClass .boolean ∈ TBL) (hi : i = nI N) (hN : N ≤ 65536) (hd : decode cc pc = .ok (.newarray .boolean, 2)) (hk : k + 1 ≤ rm.cells) (hs : n + N ≤ rm.slots)
    (kk : ∀ q : Nat, q ∉ pL S → G.1 ≤ q → J G Z (sW S q 11 N) (k + 1) (n + N) (pc + 2) L (va_rf (some q) :: st)) : J G Z S k n pc L (.int i :: st) := by
  intro H locs ls hW hS hL
  subst hi
  refine va_newa (atype := .boolean) (ty := .boolean) (a0 := (N, .inl (fun _ => 0))) (N' := N) hC.1 hC.2.1 (hC.ww _ hw) rfl hC.ks.1 hW.1 hW.2 hS hC.A (fun cA => rfl) (nI_pos (by omega)) (nI_clamp (by omega)) (by show N * 1 ≤ 536870912; omega) (by rw [hC.rr]; exact hk) (by rw [hC.rr]; exact hs) hd (fun q cA H1 pk p1 p2 p3 => ?_)
  have hq := nin_of_D p2
  have hG : G.1 ≤ q := p2.2 (va_pl (pL S) (PF G S)).length (q, _) (by rw [List.getElem?_append_right (Nat.le_refl _), Nat.sub_self]; rfl)
  have e1 : (zs Z).vm.findClass ("[" ++ (FieldType.boolean).toString) = some cA := (pk.2 5 (cA, .boolean) rfl).2
  have e2 : (zs Z).vm.findClass ("[" ++ (FieldType.boolean).toString) = some (gC G 11) := (hC.ks.1.2 1 (gC G 11, .boolean) rfl).2
  have e3 : cA = gC G 11 := Option.some.inj (e1.symm.trans e2)
  subst e3
  rw [PF_newW hq (PF_newN (by omega) (by omega))] at p1 p2
  exact kk q hq hG H1 locs ls ⟨p1, p2⟩ p3 hL
theorem r_newJ (hC : CX G Z own cc nL ret rm) {i : Int32} {N : Nat} (hw : Cond.arrayClass .long ∈ TBL) (hi : i = nI N) (hN : N ≤ 65536) (hd : decode cc pc = .ok (.newarray .long, 2)) (hk : k + 1 ≤ rm.cells) (hs : n + N ≤ rm.slots)
    (kk : ∀ q : Nat, q ∉ pL S → G.1 ≤ q → J G Z (sW S q 14 N) (k + 1) (n + N) (pc + 2) L (va_rf (some q) :: st)) : J G Z S k n pc L (.int i :: st) := by
  intro H locs ls hW hS hL
  subst hi
  refine va_newa (atype := .long) (ty := .long) (a0 := (N, .inr (.inl (fun _ => 0)))) (N' := N) hC.1 hC.2.1 (hC.ww _ hw) rfl hC.ks.1 hW.1 hW.2 hS hC.A (fun cA => rfl) (nI_pos (by omega)) (nI_clamp (by omega)) (by show N * 8 ≤ 536870912; omega) (by rw [hC.rr]; exact hk) (by rw [hC.rr]; exact hs) hd (fun q cA H1 pk p1 p2 p3 => ?_)
  have hq := nin_of_D p2
  have hG : G.1 ≤ q := p2.2 (va_pl (pL S) (PF G S)).length (q, _) (by rw [List.getElem?_append_right (Nat.le_refl _), Nat.sub_self]; rfl)
  have e1 : (zs Z).vm.findClass ("[" ++ (FieldType.long).toString) = some cA := (pk.2 5 (cA, .long) rfl).2
  have e2 : (zs Z).vm.findClass ("[" ++ (FieldType.long).toString) = some (gC G 14) := (hC.ks.1.2 4 (gC G 14, .long) rfl).2
  have e3 : cA = gC G 14 := Option.some.inj (e1.symm.trans e2)
  subst e3
  rw [PF_newW hq PF_newJ] at p1 p2
  exact kk q hq hG H1 locs ls ⟨p1, p2⟩ p3 hL
theorem r_newL (hC : CX G Z own cc nL ret rm) {i : Int32} {N idx : Nat} (hw : Cond.classLink own idx "Thumbreel$Leaf" ∈ TBL) (hi : i = nI N) (hN : N ≤ 65536) (hd : decode cc pc = .ok (.anewarray idx, 3)) (hk : k + 1 ≤ rm.cells) (hs : n + N ≤ rm.slots)
    (kk : ∀ q : Nat, q ∉ pL S → G.1 ≤ q → J G Z (sW S q 12 N) (k + 1) (n + N) (pc + 3) L (va_rf (some q) :: st)) : J G Z S k n pc L (.int i :: st) := by
  intro H locs ls hW hS hL
  subst hi
  refine va_newq (C := "Thumbreel$Leaf") (N' := N) hC.1 hC.2.1 hC.ow (hC.ww _ hw) hC.ks.2.2.2.2.2.2.2.1 hC.ks.1 hW.1 hW.2 hS hC.A (nI_pos (by omega)) (nI_clamp (by omega)) (by omega) (by rw [hC.rr]; exact hk) (by rw [hC.rr]; exact hs) hd (fun q cA H1 pk p1 p2 p3 => ?_)
  have hq := nin_of_D p2
  have hG : G.1 ≤ q := p2.2 (va_pl (pL S) (PF G S)).length (q, _) (by rw [List.getElem?_append_right (Nat.le_refl _), Nat.sub_self]; rfl)
  obtain ⟨-, -, -, -, -, e1⟩ := (pk.2 5 (cA, .object "Thumbreel$Leaf") rfl).2
  obtain ⟨-, -, -, -, -, e2⟩ := (hC.ks.1.2 2 (gC G 12, .object "Thumbreel$Leaf") rfl).2
  have e3 : cA = gC G 12 := Option.some.inj (e1.symm.trans e2)
  subst e3
  rw [PF_newW hq (PF_newQ (by omega) (by omega))] at p1 p2
  exact kk q hq hG H1 locs ls ⟨p1, p2⟩ p3 hL
theorem r_newB (hC : CX G Z own cc nL ret rm) {i : Int32} {N idx : Nat} (hw : Cond.classLink own idx "java/lang/Object" ∈ TBL) (hi : i = nI N) (hN : N ≤ 65536) (hd : decode cc pc = .ok (.anewarray idx, 3)) (hk : k + 1 ≤ rm.cells) (hs : n + N ≤ rm.slots)
    (kk : ∀ q : Nat, q ∉ pL S → G.1 ≤ q → J G Z (sW S q 13 N) (k + 1) (n + N) (pc + 3) L (va_rf (some q) :: st)) : J G Z S k n pc L (.int i :: st) := by
  intro H locs ls hW hS hL
  subst hi
  refine va_newq (C := "java/lang/Object") (N' := N) hC.1 hC.2.1 hC.ow (hC.ww _ hw) hC.ks.2.2.2.2.2.2.1 hC.ks.1 hW.1 hW.2 hS hC.A (nI_pos (by omega)) (nI_clamp (by omega)) (by omega) (by rw [hC.rr]; exact hk) (by rw [hC.rr]; exact hs) hd (fun q cA H1 pk p1 p2 p3 => ?_)
  have hq := nin_of_D p2
  have hG : G.1 ≤ q := p2.2 (va_pl (pL S) (PF G S)).length (q, _) (by rw [List.getElem?_append_right (Nat.le_refl _), Nat.sub_self]; rfl)
  obtain ⟨-, -, -, -, -, e1⟩ := (pk.2 5 (cA, .object "java/lang/Object") rfl).2
  obtain ⟨-, -, -, -, -, e2⟩ := (hC.ks.1.2 3 (gC G 13, .object "java/lang/Object") rfl).2
  have e3 : cA = gC G 13 := Option.some.inj (e1.symm.trans e2)
  subst e3
  rw [PF_newW hq (PF_newQ (by omega) (by omega))] at p1 p2
  exact kk q hq hG H1 locs ls ⟨p1, p2⟩ p3 hL
theorem r_objInit (hC : CX G Z own cc nL ret rm) {idx a : Nat} (w1 : Cond.methodLink own idx Lib.objectInit ∈ TBL) (w2 : Cond.instanceMethod Lib.objectInit ∈ TBL) (w3 : Cond.code Lib.objectInit ⟨#[0xb1]⟩ 1 none ∈ TBL) (hd : decode cc pc = .ok (.invokespecial idx, 3)) (hf : 1 ≤ rm.frames) (hl : (st.map fun v => v.category).sum + 12 ≤ rm.locals) (kk : J G Z S k n (pc + 3) L st) : J G Z S k n pc L (va_rf (some a) :: st) := by
  intro H locs ls hW hS hL
  exact W.objInit hC.1 hC.2.1 hC.ow (hC.ww _ w1) (hC.ww _ w2) (hC.ww _ w3) rfl hL.1.1 rfl hd (by rw [hC.rr]; exact hf) (by rw [hC.rr]; show 2 * 0 + _ + 12 ≤ _; omega) (kk H locs ls hW hS hL)
theorem r_mmin (hC : CX G Z own cc nL ret rm) {idx : Nat} {x y : Int32} (w1 : Cond.methodLink own idx Lib.Math.min.name ∈ TBL) (w2 : Cond.static Lib.Math.min.name ∈ TBL) (w3 : Cond.initialized "java/lang/Math" ∈ TBL) (w4 : Cond.code Lib.Math.min.name Lib.Math.min.code 2 (some .int) ∈ TBL) (hd : decode cc pc = .ok (.invokestatic idx, 3)) (hf : 1 ≤ rm.frames) (hl : (st.map fun v => v.category).sum + 13 ≤ rm.locals) (hk : k ≤ rm.cells) (hs : n ≤ rm.slots) (kk : J G Z S k n (pc + 3) L (.int (if y < x then y else x) :: st)) : J G Z S k n pc L (.int y :: .int x :: st) := by
  intro H locs ls hW hS hL
  exact va_mmin hC.1 hC.2.1 hL.1.1.symm hC.ow (hC.ww _ w1) (hC.ww _ w2) (hC.ww _ w3) (hC.ww _ w4) (by rw [hC.rr]; exact hf) (by rw [hC.rr]; exact hl) (by rw [hC.rr]; exact hk) (by rw [hC.rr]; exact hs) hd (kk H locs ls hW hS hL)
theorem r_mmax (hC : CX G Z own cc nL ret rm) {idx : Nat} {x y : Int32} (w1 : Cond.methodLink own idx Lib.Math.max.name ∈ TBL) (w2 : Cond.static Lib.Math.max.name ∈ TBL) (w3 : Cond.initialized "java/lang/Math" ∈ TBL) (w4 : Cond.code Lib.Math.max.name Lib.Math.max.code 2 (some .int) ∈ TBL) (hd : decode cc pc = .ok (.invokestatic idx, 3)) (hf : 1 ≤ rm.frames) (hl : (st.map fun v => v.category).sum + 13 ≤ rm.locals) (hk : k ≤ rm.cells) (hs : n ≤ rm.slots) (kk : J G Z S k n (pc + 3) L (.int (if x < y then y else x) :: st)) : J G Z S k n pc L (.int y :: .int x :: st) := by
  intro H locs ls hW hS hL
  exact va_mmax hC.1 hC.2.1 hL.1.1.symm hC.ow (hC.ww _ w1) (hC.ww _ w2) (hC.ww _ w3) (hC.ww _ w4) (by rw [hC.rr]; exact hf) (by rw [hC.rr]; exact hl) (by rw [hC.rr]; exact hk) (by rw [hC.rr]; exact hs) hd (kk H locs ls hW hS hL)
end JR
