/-! the model: member -/
theorem x6_cls {F tb : Nat → Nat} {pc : Nat} (h : x6 F tb pc = none) {k : Nat} (hk : isE F tb pc k 7 = true) : isE F tb pc (e1 F tb k) 1 = true := by
  obtain ⟨h1, h2, h3⟩ := isE_t hk
  have g := x6_k h h1 h2
  unfold good6 at g
  rw [if_pos h3] at g
  exact g
theorem x8_own {F tb : Nat → Nat} {pc cl : Nat} (h : x8 F tb pc cl = none) : isE F tb pc (U2 F (cl + 2)) 7 = true := by
  unfold x8 at h
  by_cases g : isE F tb pc (U2 F (cl + 2)) 7 = true
  · exact g
  · rw [Bool.not_eq_true] at g
    rw [if_pos g] at h
    exact absurd h (by simp)
def mtc (F tb mt : Nat → Nat) (i a b : Nat) : Bool := sameK F tb (U2 F (mt i + 2)) a && sameK F tb (U2 F (mt i + 4)) b
/-- the last of the members lo .. lo + c - 1 that has the name a and the type b, told from lo; -1 if none -/
def fnL (F tb mt : Nat → Nat) (a b lo : Nat) : Nat → Int
  | 0 => -1
  | c + 1 => if mtc F tb mt (lo + c) a b = true then (c : Int) else fnL F tb mt a b lo c
theorem fnL_t {F tb mt : Nat → Nat} {a b lo c i : Nat} (hi : i = lo + c) (h : mtc F tb mt i a b = true) : fnL F tb mt a b lo (c + 1) = (c : Int) := by
  subst hi
  conv => lhs; unfold fnL
  rw [if_pos h]
theorem fnL_f {F tb mt : Nat → Nat} {a b lo c i : Nat} (hi : i = lo + c) (h : mtc F tb mt i a b = false) : fnL F tb mt a b lo (c + 1) = fnL F tb mt a b lo c := by
  subst hi
  conv => lhs; unfold fnL
  rw [if_neg (by rw [h]; decide)]
theorem fnL_rg (F tb mt : Nat → Nat) (a b lo : Nat) : ∀ c, -1 ≤ fnL F tb mt a b lo c ∧ fnL F tb mt a b lo c < c := by
  intro c
  induction c with
  | zero => exact ⟨by show (-1 : Int) ≤ -1; omega, by show (-1 : Int) < 0; omega⟩
  | succ c ih =>
    unfold fnL
    split <;> omega
/-- the number of the member that entry k, of tag g, tells; -1 if it tells none of this class -/
def mbR (F tb mt : Nat → Nat) (pc cl nf nm k g : Nat) : Int :=
  if isE F tb pc k g = true ∧ sameK F tb (e1 F tb (e1 F tb k)) (e1 F tb (U2 F (cl + 2))) = true then
    (if g = 9 then fnL F tb mt (e1 F tb (e2 F tb k)) (e2 F tb (e2 F tb k)) 0 nf else fnL F tb mt (e1 F tb (e2 F tb k)) (e2 F tb (e2 F tb k)) nf nm) else -1
