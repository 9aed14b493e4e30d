/-! THE FILE AS MATHEMATICS. h q: the byte at q, 256 behind the end. A reading gives a fault (kind, place) or a value. -/
abbrev Er : Type := Nat × Nat
def eB {α β : Type} (x : Except Er α) (f : α → Except Er β) : Except Er β := match x with
  | .error e => .error e
  | .ok a => f a
/-- what comes of a reading: P of its value, E of its fault -/
def Lk {α : Type} (x : Except Er α) (P : α → Prop) (E : Er → Prop) : Prop := match x with
  | .error e => E e
  | .ok a => P a
theorem Lk_eB {α β : Type} (x : Except Er α) (f : α → Except Er β) (P : β → Prop) (E : Er → Prop) : Lk (eB x f) P E = Lk x (fun a => Lk (f a) P E) E := by
  cases x <;> rfl
theorem Lk_imp {α : Type} {x : Except Er α} {P P' : α → Prop} {E E' : Er → Prop} (h : Lk x P E) (hp : ∀ a, x = .ok a → P a → P' a) (he : ∀ e, x = .error e → E e → E' e) : Lk x P' E' := by
  cases x with
  | error e => exact he e rfl h
  | ok a => exact hp a rfl h
theorem Lk_of {α : Type} {x : Except Er α} {P : α → Prop} {E : Er → Prop} (hp : ∀ a, x = .ok a → P a) (he : ∀ e, x = .error e → E e) : Lk x P E := by
  cases x with
  | error e => exact he e rfl
  | ok a => exact hp a rfl
def isD (c : Nat) : Bool := decide (48 ≤ c) && decide (c ≤ 57)
/-- digits: j more are allowed (4 at first), v so far, at q -/
def pNumG (h : Nat → Nat) : Nat → Nat → Nat → Except Er (Nat × Nat)
  | 0, v, q => if isD (h q) then .error (1, q) else .ok (v, q)
  | j + 1, v, q => if isD (h q) then (if j ≠ 3 ∧ v = 0 then .error (1, q) else pNumG h j (10 * v + (h q - 48)) (q + 1)) else (if j = 3 then .error (1, q) else .ok (v, q))
def pNum (h : Nat → Nat) (q : Nat) : Except Er (Nat × Nat) := pNumG h 4 0 q
def pExp (h : Nat → Nat) (c q : Nat) : Except Er Nat := if h q = c then .ok (q + 1) else .error (1, q)
def pLit (h : Nat → Nat) (M q : Nat) : Except Er (Nat × Nat) := eB (pNum h q) fun z => if z.1 ≤ 2 * M + 1 then .ok z else .error (3, q)
def pDef (h : Nat → Nat) (M : Nat) (dl : List Nat) (q : Nat) : Except Er (Nat × Nat) := eB (pLit h M q) fun z => if 2 ≤ z.1 ∧ z.1 % 2 = 0 ∧ z.1 / 2 ∉ dl then .ok z else .error (4, q)
/-- a blank and a number -/
def pCnt (h : Nat → Nat) (q : Nat) : Except Er (Nat × Nat) := eB (pExp h 32 q) fun r => pNum h r
def hdFits (bin : Bool) (M I L O A : Nat) : Bool := decide (M ≤ 400) && decide (I ≤ 6) && decide (L ≤ 7) && decide (O ≤ 8) && decide (A ≤ 300) && (if bin then decide (M = I + L + A) else decide (I + L + A ≤ M))
/-- the first line: binary?, M, I, L, O, A, and where the next one begins -/
def pHead (h : Nat → Nat) : Except Er (Bool × Nat × Nat × Nat × Nat × Nat × Nat) :=
  eB (pExp h 97 0) fun q =>
  eB (pExp h (if h q = 105 then 105 else 97) q) fun q2 =>
  eB (pExp h 103 q2) fun q3 =>
  eB (pCnt h q3) fun zM => eB (pCnt h zM.2) fun zI => eB (pCnt h zI.2) fun zL => eB (pCnt h zL.2) fun zO => eB (pCnt h zO.2) fun zA =>
  eB (pExp h 10 zA.2) fun q9 =>
  if hdFits (decide (h q = 105)) zM.1 zI.1 zL.1 zO.1 zA.1 then .ok (decide (h q = 105), zM.1, zI.1, zL.1, zO.1, zA.1, q9) else .error (2, q9)
/-- text: j lines that define, each with its end -/
def pIns (h : Nat → Nat) (M : Nat) : Nat → List Nat → Nat → Except Er (List Nat × Nat)
  | 0, vs, q => .ok (vs, q)
  | j + 1, vs, q => eB (pDef h M vs q) fun z => eB (pExp h 10 z.2) fun r => pIns h M j (vs ++ [z.1 / 2]) r
/-- j lines with a literal: values and places so far -/
def pUses (h : Nat → Nat) (M : Nat) : Nat → List (Nat × Nat) → Nat → Except Er (List (Nat × Nat) × Nat)
  | 0, us, q => .ok (us, q)
  | j + 1, us, q => eB (pLit h M q) fun z => eB (pExp h 10 z.2) fun r => pUses h M j (us ++ [(z.1, q)]) r
/-- text: j latches: the variables so far (ins ahead of them), the nexts so far -/
def pLats (h : Nat → Nat) (M : Nat) : Nat → List Nat → List (Nat × Nat) → Nat → Except Er (List Nat × List (Nat × Nat) × Nat)
  | 0, vs, us, q => .ok (vs, us, q)
  | j + 1, vs, us, q => eB (pDef h M vs q) fun z => eB (pExp h 32 z.2) fun r => eB (pLit h M r) fun y => eB (pExp h 10 y.2) fun t => pLats h M j (vs ++ [z.1 / 2]) (us ++ [(y.1, r)]) t
/-- text: j ands: all variables so far, the operands so far (two each) -/
def pAnds (h : Nat → Nat) (M : Nat) : Nat → List Nat → List (Nat × Nat) → Nat → Except Er (List Nat × List (Nat × Nat) × Nat)
  | 0, vs, us, q => .ok (vs, us, q)
  | j + 1, vs, us, q => eB (pDef h M vs q) fun z => eB (pExp h 32 z.2) fun r => eB (pLit h M r) fun y => eB (pExp h 32 y.2) fun t => eB (pLit h M t) fun x => eB (pExp h 10 x.2) fun w => pAnds h M j (vs ++ [z.1 / 2]) (us ++ [(y.1, r), (x.1, t)]) w
/-- a delta: i bytes of it are read, their bits are v; at most three -/
def pSevG (h : Nat → Nat) : Nat → Nat → Nat → Nat → Except Er (Nat × Nat)
  | 0, _, _, q => .error (1, q)
  | j + 1, i, v, q => if h q = 256 then .error (1, q) else if h q < 128 then .ok (v + h q * 128 ^ i, q + 1) else pSevG h j (i + 1) (v + (h q - 128) * 128 ^ i) (q + 1)
def pDel (h : Nat → Nat) (lo hi q : Nat) : Except Er (Nat × Nat) := eB (pSevG h 3 0 0 q) fun z => if lo ≤ z.1 ∧ z.1 ≤ hi then .ok z else .error (3, q)
/-- binary: j ands, the first of them has the variable v; the operands so far -/
def pBinAnds (h : Nat → Nat) : Nat → Nat → List (Nat × Nat) → Nat → Except Er (List (Nat × Nat) × Nat)
  | 0, _, us, q => .ok (us, q)
  | j + 1, v, us, q => eB (pDel h 1 (2 * v) q) fun z => eB (pDel h 0 (2 * v - z.1) z.2) fun y => pBinAnds h j (v + 1) (us ++ [(2 * v - z.1, q), (2 * v - z.1 - y.1, z.2)]) y.2
/-- a name's bytes: at most j more -/
def pNameG (h : Nat → Nat) : Nat → List Nat → Nat → List Nat × Nat
  | 0, bs, q => (bs, q)
  | j + 1, bs, q => if h q = 256 ∨ h q = 10 then (bs, q) else pNameG h j (bs ++ [h q]) (q + 1)
def kindOf (c : Nat) : Option Nat := if c = 105 then some 0 else if c = 108 then some 1 else if c = 111 then some 2 else none
def cntOf (I L O kind : Nat) : Nat := if kind = 0 then I else if kind = 1 then L else if kind = 2 then O else 0
/-- a symbol line behind its letter: names by slot (8 * kind + k) -/
def pSym (h : Nat → Nat) (I L O kind : Nat) (nm : Nat → List Nat) (q : Nat) : Except Er ((Nat → List Nat) × Nat) :=
  eB (pNum h q) fun z =>
  if z.1 < cntOf I L O kind ∧ nm (8 * kind + z.1) = [] then
    eB (pExp h 32 z.2) fun r =>
    let w := pNameG h 40 [] r
    if w.1 = [] then .error (1, w.2) else eB (pExp h 10 w.2) fun t => .ok (va_up nm (8 * kind + z.1) w.1, t)
  else .error (1, z.2)
/-- symbol lines, at most j, and what comes behind them -/
def pSyms (h : Nat → Nat) (I L O : Nat) : Nat → (Nat → List Nat) → Nat → Except Er (Nat → List Nat)
  | 0, nm, _ => .ok nm
  | j + 1, nm, q => if h q = 256 then .ok nm else if h q = 99 then eB (pExp h 10 (q + 1)) fun _ => .ok nm else match kindOf (h q) with
    | none => .error (1, q)
    | some kind => eB (pSym h I L O kind nm (q + 1)) fun z => pSyms h I L O j z.1 z.2
/-- the first use whose variable is defined nowhere -/
def pKnown (dl : List Nat) : List (Nat × Nat) → Except Er Unit
  | [] => .ok ()
  | u :: us => if u.1 < 2 ∨ u.1 / 2 ∈ dl then pKnown dl us else .error (5, u.2)
