/-! rules 6 to 12: the first place that breaks each -/
def fst1 (g : Nat → Option Nat) : Nat → Nat → Option Nat
  | 0, _ => none
  | c + 1, i => match g i with
    | some q => some q
    | none => fst1 g c (i + 1)
theorem fst1_s {g : Nat → Option Nat} {c i : Nat} (h : g i = none) : fst1 g (c + 1) i = fst1 g c (i + 1) := by
  conv => lhs; unfold fst1
  rw [h]
theorem fst1_e {g : Nat → Option Nat} {c i q : Nat} (h : g i = some q) : fst1 g (c + 1) i = some q := by
  conv => lhs; unfold fst1
  rw [h]
def good6 (F tb : Nat → Nat) (pc k : Nat) : Bool :=
  if tg F tb k = 7 then isE F tb pc (e1 F tb k) 1 else if tg F tb k = 12 then isE F tb pc (e1 F tb k) 1 && isE F tb pc (e2 F tb k) 1 else if tg F tb k = 9 ∨ tg F tb k = 10 then isE F tb pc (e1 F tb k) 7 && isE F tb pc (e2 F tb k) 12 else true
def g6 (F tb : Nat → Nat) (pc k : Nat) : Option Nat := if good6 F tb pc k = true then none else some (tb k)
def x6 (F tb : Nat → Nat) (pc : Nat) : Option Nat := fst1 (g6 F tb pc) (pc - 1) 1
def g7 (F mt : Nat → Nat) (i : Nat) : Option Nat := if U2 F (mt i) = 9 then none else some (mt i)
def x7 (F mt : Nat → Nat) (cl mc : Nat) : Option Nat := if U2 F cl = 33 then fst1 (g7 F mt) mc 0 else some cl
def x8 (F tb : Nat → Nat) (pc cl : Nat) : Option Nat := if isE F tb pc (U2 F (cl + 2)) 7 = false then some (cl + 2) else if isE F tb pc (U2 F (cl + 4)) 7 = false then some (cl + 4) else if U2 F (cl + 6) = 0 then none else some (cl + 6)
def gN (F tb : Nat → Nat) (pc q : Nat) : Option Nat := if isE F tb pc (U2 F q) 1 = true then none else some q
def x9a (F tb : Nat → Nat) (pc a : Nat) : Option Nat := fst1 (fun j => gN F tb pc (atp F a j)) (U2 F a) 0
def x9m (F tb : Nat → Nat) (pc : Nat) (mt : Nat → Nat) (i : Nat) : Option Nat := (gN F tb pc (mt i + 2)).or ((gN F tb pc (mt i + 4)).or (x9a F tb pc (mt i + 6)))
def x9 (F tb : Nat → Nat) (pc : Nat) (mt : Nat → Nat) (mc fa : Nat) : Option Nat := (fst1 (x9m F tb pc mt) mc 0).or (x9a F tb pc fa)
/-- the letters of NAME k -/
abbrev nP (tb : Nat → Nat) (k : Nat) : Nat := tb k + 3
abbrev nL (F tb : Nat → Nat) (k : Nat) : Nat := U2 F (tb k + 1)
def tyN (F tb : Nat → Nat) (k : Nat) : Bool := isTy F (nP tb k) (nL F tb k)
def ppN (F tb : Nat → Nat) (k : Nat) : Int := pp F (nP tb k) (nL F tb k)
def g10 (F tb : Nat → Nat) (k : Nat) : Option Nat := if tg F tb k = 9 then (if tyN F tb (e2 F tb (e2 F tb k)) = true then none else some (tb k)) else if tg F tb k = 10 then (if 0 ≤ ppN F tb (e2 F tb (e2 F tb k)) then none else some (tb k)) else none
def g10m (F tb mt : Nat → Nat) (nf i : Nat) : Option Nat := if i < nf then (if tyN F tb (U2 F (mt i + 4)) = true then none else some (mt i + 4)) else (if 0 ≤ ppN F tb (U2 F (mt i + 4)) ∧ ppN F tb (U2 F (mt i + 4)) ≤ 8 then none else some (mt i + 4))
def x10 (F tb : Nat → Nat) (pc : Nat) (mt : Nat → Nat) (nf mc : Nat) : Option Nat := (fst1 (g10 F tb) (pc - 1) 1).or (fst1 (g10m F tb mt nf) mc 0)
def sameN (F : Nat → Nat) (fp ln gp gl : Nat) : Bool := decide (ln = gl ∧ ∀ i, i < ln → F (fp + i) = F (gp + i))
def sameK (F tb : Nat → Nat) (a b : Nat) : Bool := sameN F (nP tb a) (nL F tb a) (nP tb b) (nL F tb b)
def from11 (nf i : Nat) : Nat := if i < nf then 0 else nf
def g11 (F tb mt : Nat → Nat) (i j : Nat) : Option Nat := if sameK F tb (U2 F (mt j + 2)) (U2 F (mt i + 2)) = true then some (mt i + 2) else none
def g11i (F tb mt : Nat → Nat) (nf i : Nat) : Option Nat := fst1 (g11 F tb mt i) (i - from11 nf i) (from11 nf i)
def x11 (F tb mt : Nat → Nat) (nf mc : Nat) : Option Nat := fst1 (g11i F tb mt nf) mc 0
def isTx (F : Nat → Nat) (fp ln : Nat) (w : List Nat) : Bool := decide (ln = w.length ∧ ∀ i, i < ln → F (fp + i) = w.getD i 0)
def isTxK (F tb : Nat → Nat) (k i : Nat) : Bool := isTx F (nP tb k) (nL F tb k) (tx i)
/-- of the first c attributes of the list at a: how many are Code, and the last such -/
def cdL (F tb : Nat → Nat) (a : Nat) : Nat → Nat × Nat
  | 0 => (0, 0)
  | c + 1 => if isTxK F tb (U2 F (atp F a c)) 0 = true then ((cdL F tb a c).1 + 1, atp F a c) else cdL F tb a c
def cdA (F tb : Nat → Nat) (a : Nat) : Nat × Nat := cdL F tb a (U2 F a)
def g12 (F tb mt : Nat → Nat) (i : Nat) : Option Nat := if (cdA F tb (mt i + 6)).1 = 1 then none else some (mt i)
def x12 (F tb mt : Nat → Nat) (nf mc : Nat) : Option Nat := fst1 (g12 F tb mt) (mc - nf) nf
theorem or_n {a b : Option Nat} (h : a = none) : a.or b = b := by rw [h]; rfl
theorem or_s {a b : Option Nat} {q : Nat} (h : a = some q) : a.or b = some q := by rw [h]; rfl
