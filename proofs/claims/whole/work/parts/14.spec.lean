/-! letters of a NAME, read as types -/
def nmC (F : Nat → Nat) (fp ln i : Nat) : Nat := if i < ln then F (fp + i) else 0
def tyAt (F : Nat → Nat) (fp ln i : Nat) : Nat := if nmC F fp ln i = 73 ∨ nmC F fp ln i = 74 then 1 else if nmC F fp ln i = 91 ∧ nmC F fp ln (i + 1) = 73 then 2 else 0
def isTy (F : Nat → Nat) (fp ln : Nat) : Bool := decide (tyAt F fp ln 0 > 0 ∧ tyAt F fp ln 0 = ln)
/-- from letter i on, n places so far: where the types end, and the places -/
def ppL (F : Nat → Nat) (fp ln : Nat) : Nat → Nat → Nat → Nat × Nat
  | 0, i, n => (i, n)
  | c + 1, i, n => if tyAt F fp ln i > 0 then ppL F fp ln c (i + tyAt F fp ln i) (n + if nmC F fp ln i = 74 then 2 else 1) else (i, n)
def ppI (F : Nat → Nat) (fp ln : Nat) : Nat × Nat := ppL F fp ln (ln + 1) 1 0
def ppLast (F : Nat → Nat) (fp ln i : Nat) : Nat := if nmC F fp ln i = 86 then 1 else tyAt F fp ln i
def pp (F : Nat → Nat) (fp ln : Nat) : Int :=
  if nmC F fp ln 0 = 40 ∧ nmC F fp ln (ppI F fp ln).1 = 41 ∧ ppLast F fp ln ((ppI F fp ln).1 + 1) > 0 ∧ (ppI F fp ln).1 + 1 + ppLast F fp ln ((ppI F fp ln).1 + 1) = ln then ((ppI F fp ln).2 : Int) else -1
theorem tyAt_le (F : Nat → Nat) (fp ln i : Nat) : tyAt F fp ln i ≤ 2 := by unfold tyAt; (repeat' split) <;> omega
theorem tyAt_in {F : Nat → Nat} {fp ln i : Nat} (h : tyAt F fp ln i > 0) : i + tyAt F fp ln i ≤ ln := by
  unfold tyAt nmC at *
  (repeat' split at *) <;> omega
theorem ppL_in (F : Nat → Nat) (fp ln : Nat) : ∀ (c i n : Nat), i ≤ ln → (ppL F fp ln c i n).1 ≤ ln ∧ i ≤ (ppL F fp ln c i n).1 := by
  intro c
  induction c with
  | zero => intro i n h; exact ⟨h, Nat.le_refl _⟩
  | succ c ih =>
    intro i n h
    unfold ppL
    split
    · rename_i h2
      have h3 := tyAt_in h2
      have := ih (i + tyAt F fp ln i) (n + if nmC F fp ln i = 74 then 2 else 1) h3
      omega
    · exact ⟨h, Nat.le_refl _⟩
/-- more fuel changes nothing -/
theorem ppL_fuel (F : Nat → Nat) (fp ln : Nat) : ∀ (c d i n : Nat), ln < c + i → ln < d + i → ppL F fp ln c i n = ppL F fp ln d i n := by
  intro c
  induction c with
  | zero =>
    intro d i n h1 h2
    have h0 : ¬ tyAt F fp ln i > 0 := fun h => by have := tyAt_in h; omega
    cases d with
    | zero => rfl
    | succ d => rw [show ppL F fp ln 0 i n = (i, n) from rfl]; unfold ppL; rw [if_neg h0]
  | succ c ih =>
    intro d i n h1 h2
    cases d with
    | zero =>
      have h0 : ¬ tyAt F fp ln i > 0 := fun h => by have := tyAt_in h; omega
      rw [show ppL F fp ln 0 i n = (i, n) from rfl]; unfold ppL; rw [if_neg h0]
    | succ d =>
      unfold ppL
      split
      · rename_i h
        exact ih d _ _ (by omega) (by omega)
      · rfl
theorem nmC_lt {F : Nat → Nat} (hF : isF F) (fp ln i : Nat) : nmC F fp ln i < 256 := by unfold nmC; split; exact hF _; decide
/-- what the model holds of the file: its bytes are F, n of them -/
def mSrc (σ : mS) (F : Nat → Nat) (n : Nat) : Prop := isF F ∧ (∀ j, j < n → σ.2.1 0 j = zI (sb (F j))) ∧ σ.1 7 = 1 ∧ n ≤ 16000
/-- a NAME of the model's pool: its letters begin at fp, there are ln -/
def mNm (σ : mS) (F : Nat → Nat) (n nm fp ln : Nat) : Prop := nm < 502 ∧ σ.2.1 13 nm = zI (fp : Int) ∧ σ.2.1 14 nm = zI (ln : Int) ∧ fp + ln ≤ n ∧ ln ≤ 100 ∧ ∀ i, i < ln → F (fp + i) < 128
theorem sb_lo {v : Nat} (h : v < 128) : sb v = (v : Int) := by unfold sb; rw [if_pos h]
