/-! the model: switched -/
theorem mBrk_up {Z : zT} {o : Nat} {ad : Nat → Nat} {xs fs xs' fs' : List Nat} {σ σ1 : mS} {r q : Nat} {H : Heap} (h : chg xs fs σ σ1) (g : mBrk Z o ad xs' fs' σ1 r q H) (h1 : ∀ k ∈ xs', k ∈ xs) (h2 : ∀ k ∈ fs', k ∈ fs) : mBrk Z o ad xs fs σ r q H := by
  obtain ⟨σ', g1, g2, g3, g4⟩ := g
  exact ⟨σ', g1, g2, g3, h.tr (g4.mono h1 h2)⟩
/-- where the i-th target of the switch at q stands, from the code's first -/
def swT (q b i : Nat) : Nat := if b = 170 then swF q + 12 + 4 * i else swF q + 12 + 8 * i
def swA (F : Nat → Nat) (ca sz : Nat) (na : Nat → Int) (q b : Nat) : Nat → Nat → Bool
  | 0, _ => true
  | c + 1, i => if ptOk sz na ((q : Int) + S4 F (ca + swT q b i)) = true then swA F ca sz na q b c (i + 1) else false
def swG (F : Nat → Nat) (ca sz : Nat) (na : Nat → Int) (q b M : Nat) : Bool := if ptOk sz na ((q : Int) + S4 F (ca + swF q)) = true then swA F ca sz na q b M 0 else false
/-- the j-th number of the switch's table -/
def tbL (F : Nat → Nat) (ca : Nat) (na : Nat → Int) (q b j : Nat) : Int :=
  if j = 0 then na ((q : Int) + S4 F (ca + swF q)).toNat else
  if j % 2 = 1 then (if b = 170 then S4 F (ca + (swF q + 4)) + (j / 2 : Nat) else S4 F (ca + (swF q + 8 + 8 * (j / 2)))) else na ((q : Int) + S4 F (ca + swT q b (j / 2 - 1))).toNat
def swM (F : Nat → Nat) (ca sz q b M : Nat) : Prop := (b = 170 ∧ S4 F (ca + (swF q + 8)) - S4 F (ca + (swF q + 4)) + 1 = (M : Int) ∧ 1 ≤ M ∧ M ≤ 201 ∧ swF q + 12 + 4 * M ≤ sz) ∨ (b = 171 ∧ S4 F (ca + (swF q + 4)) = (M : Int) ∧ M ≤ 200 ∧ swF q + 8 + 8 * M ≤ sz)
theorem swA_s {F : Nat → Nat} {ca sz : Nat} {na : Nat → Int} {q b c i : Nat} (h : ptOk sz na ((q : Int) + S4 F (ca + swT q b i)) = true) : swA F ca sz na q b (c + 1) i = swA F ca sz na q b c (i + 1) := by
  conv => lhs; unfold swA
  rw [if_pos h]
theorem swA_f {F : Nat → Nat} {ca sz : Nat} {na : Nat → Int} {q b c i : Nat} (h : ptOk sz na ((q : Int) + S4 F (ca + swT q b i)) = false) : swA F ca sz na q b (c + 1) i = false := by
  unfold swA
  rw [if_neg (by rw [h]; decide)]
theorem swT_a (q i : Nat) : swT q 170 i = swF q + 12 + 4 * i := rfl
theorem swT_b {q b i : Nat} (h : b ≠ 170) : swT q b i = swF q + 12 + 8 * i := if_neg h
theorem le_2 {f : Nat → Int32} {g : Nat → Int} {ts j : Nat} {x y : Int} (h : ∀ a, a ≤ 2 * j → f (ts + a) = zI (g a)) (hx : x = g (2 * j + 1)) (hy : y = g (2 * j + 2)) : ∀ a, a ≤ 2 * (j + 1) → upd (upd f (ts + 1 + 2 * j) (zI x)) (ts + 1 + 2 * j + 1) (zI y) (ts + a) = zI (g a) := by
  intro a ha
  by_cases e1 : a = 2 * j + 2
  · subst e1
    rw [show ts + (2 * j + 2) = ts + 1 + 2 * j + 1 by omega, ← hy]
    exact upd_2
  · rw [show upd (upd f (ts + 1 + 2 * j) (zI x)) (ts + 1 + 2 * j + 1) (zI y) (ts + a) = upd f (ts + 1 + 2 * j) (zI x) (ts + a) from upd_ne (by omega)]
    by_cases e2 : a = 2 * j + 1
    · subst e2
      rw [show ts + (2 * j + 1) = ts + 1 + 2 * j by omega, ← hx]
      exact upd_2
    · exact (upd_ne (by omega)).trans (h a (by omega))
