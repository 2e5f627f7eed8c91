/-! ===== piles: folding a sheet pile by pile ===== -/
/-- cells that are known, heights, top, left, rows, columns -/
abbrev PT : Type := (Nat → Option Nat) × (Nat → Nat) × Nat × Nat × Nat × Nat
def tC (c : Nat → Option Nat) (m u fr on : Nat) : Nat → Option Nat := fun x => if on * 8 ≤ x ∧ x < on * 8 + m then c (fr * 8 + (m - 1 - (x - on * 8))) else if on * 8 + m ≤ x ∧ x < on * 8 + m + u then c (x - m) else c x
def tH (h : Nat → Nat) (fr on : Nat) : Nat → Nat := fun i => if i = fr then 0 else if i = on then h fr + h on else h i
def simT (s : PT) (fr on : Nat) : PT :=
  if fr < 8 ∧ on < 8 ∧ s.2.1 fr + s.2.1 on ≤ 8 then (tC s.1 (s.2.1 fr) (s.2.1 on) fr on, tH s.2.1 fr on, s.2.2) else s
def pil (s : PT) (r c : Nat) : Nat := (s.2.2.1 + r) * 4 + s.2.2.2.1 + c
def sideC (s : PT) (st : Bool) (r : Nat) : Nat → PT
  | 0 => s
  | k + 1 => simT (sideC s st r k) (if st then pil s r (s.2.2.2.2.2 - 1 - k) else pil s r k) (if st then pil s r k else pil s r (s.2.2.2.2.2 - 1 - k))
def sideR (s : PT) (st : Bool) : Nat → PT
  | 0 => s
  | r + 1 => sideC (sideR s st r) st r (s.2.2.2.2.2 / 2)
def sideS (s : PT) (st : Bool) : PT :=
  let s' := sideR s st s.2.2.2.2.1
  (s'.1, s'.2.1, s.2.2.1, s.2.2.2.1 + (if st then 0 else s.2.2.2.2.2 / 2), s.2.2.2.2.1, s.2.2.2.2.2 / 2)
def upC (s : PT) (st : Bool) (r : Nat) : Nat → PT
  | 0 => s
  | k + 1 => simT (upC s st r k) (if st then pil s (s.2.2.2.2.1 - 1 - r) k else pil s r k) (if st then pil s r k else pil s (s.2.2.2.2.1 - 1 - r) k)
def upR (s : PT) (st : Bool) : Nat → PT
  | 0 => s
  | r + 1 => upC (upR s st r) st r s.2.2.2.2.2
def upS (s : PT) (st : Bool) : PT :=
  let s' := upR s st (s.2.2.2.2.1 / 2)
  (s'.1, s'.2.1, s.2.2.1 + (if st then 0 else s.2.2.2.2.1 / 2), s.2.2.2.1, s.2.2.2.2.1 / 2, s.2.2.2.2.2)
def stepP (fd : Nat) (s : PT) : PT := if fd < 2 then sideS s (fd == 1) else upS s (fd == 2)
def spr0 : PT := (fun x => if x % 8 = 0 ∧ x < 64 then some (x / 8) else none, fun _ => 1, 0, 0, 2, 4)
def allP (f : Nat → Nat) : Nat → PT
  | 0 => spr0
  | i + 1 => stepP (f i) (allP f i)
def folds3 (a b c : Nat) : Nat → Nat := fun i => if i = 0 then a else if i = 1 then b else c
def okP (a b c : Nat) : Bool :=
  let s := allP (folds3 a b c) 3
  let p := pil s 0 0
  decide (p < 8) && decide (s.2.1 p = 8) && (List.range 8).all (fun i => s.1 (p * 8 + i) == some (unf (folds3 a b c) i))
theorem okP_1 : ∀ a, a < 2 → ∀ b, b < 2 → ∀ c, c < 2 → okP (2 + a) b c = true := by decide +kernel
theorem okP_2 : ∀ a, a < 2 → ∀ b, b < 2 → ∀ c, c < 2 → okP a (2 + b) c = true := by decide +kernel
theorem okP_3 : ∀ a, a < 2 → ∀ b, b < 2 → ∀ c, c < 2 → okP a b (2 + c) = true := by decide +kernel

