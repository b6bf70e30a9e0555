/-! bytes of a file as numbers -/
def sb (v : Nat) : Int := if v < 128 then (v : Int) else (v : Int) - 256
def U2 (F : Nat → Nat) (k : Nat) : Nat := F k * 256 + F (k + 1)
def U4 (F : Nat → Nat) (k : Nat) : Nat := U2 F k * 65536 + U2 F (k + 2)
def S2 (F : Nat → Nat) (k : Nat) : Int := if U2 F k < 32768 then (U2 F k : Int) else (U2 F k : Int) - 65536
def S4 (F : Nat → Nat) (k : Nat) : Int := if U4 F k < 2147483648 then (U4 F k : Int) else (U4 F k : Int) - 4294967296
abbrev isF (F : Nat → Nat) : Prop := ∀ j, F j < 256
theorem U2_lt {F : Nat → Nat} (hF : isF F) (k : Nat) : U2 F k < 65536 := by have := hF k; have := hF (k + 1); unfold U2; omega
theorem U4_lt {F : Nat → Nat} (hF : isF F) (k : Nat) : U4 F k < 4294967296 := by have := U2_lt hF k; have := U2_lt hF (k + 2); unfold U4; omega
theorem S2_rg {F : Nat → Nat} (hF : isF F) (k : Nat) : -32768 ≤ S2 F k ∧ S2 F k < 32768 := by have := U2_lt hF k; unfold S2; split <;> omega
theorem S4_rg {F : Nat → Nat} (hF : isF F) (k : Nat) : -2147483648 ≤ S4 F k ∧ S4 F k < 2147483648 := by have := U4_lt hF k; unfold S4; split <;> omega
theorem sb_rg {v : Nat} (h : v < 256) : -128 ≤ sb v ∧ sb v < 128 := by unfold sb; split <;> omega
theorem zI_wrap (a : Int) : zI (a - 4294967296) = zI a := by
  rw [← zI_sub, show zI 4294967296 = 0 from by decide]
  exact Int32.sub_zero _
theorem zI_U4 (F : Nat → Nat) (k : Nat) : zI (U4 F k : Int) = zI (S4 F k) := by
  unfold S4
  split
  · rfl
  · rw [zI_wrap]
theorem and255 {v : Nat} (h : v < 256) : zI (sb v) &&& zI 255 = zI (v : Int) := by
  have : ∀ w : Fin 256, zI (sb w.val) &&& zI 255 = zI (w.val : Int) := by decide +kernel
  exact this ⟨v, h⟩
theorem zI_or {a b : Nat} (k : Nat) (h : b < 2 ^ k) : zI ((2 ^ k * a : Nat) : Int) ||| zI (b : Int) = zI ((2 ^ k * a + b : Nat) : Int) := by
  rw [zI_nat, zI_nat, zI_nat]
  have e : nI (2 ^ k * a) ||| nI b = nI (2 ^ k * a ||| b) := by
    apply Int32.toBitVec_inj.1
    show BitVec.ofNat 32 _ ||| BitVec.ofNat 32 _ = BitVec.ofNat 32 _
    apply BitVec.eq_of_getLsbD_eq
    intro i hi
    simp [hi]
  rw [e, Nat.two_pow_add_eq_or_of_lt h]
theorem zI_shl {n : Nat} (s : Int32) (k : Nat) (hs : (s.toBitVec.smod 32).toNat = k) (h : n * 2 ^ k < 2 ^ 32) : zI (n : Int) <<< s = zI ((2 ^ k * n : Nat) : Int) := by
  rw [zI_nat, zI_nat, pk_shlN s k hs h, Nat.mul_comm]
theorem shl8 {a : Nat} (h : a < 256) : zI (a : Int) <<< (zI 8 &&& 31) = zI ((2 ^ 8 * a : Nat) : Int) := zI_shl _ 8 (by decide) (by omega)
theorem shl16 {a : Nat} (h : a < 65536) : zI (a : Int) <<< (zI 16 &&& 31) = zI ((2 ^ 16 * a : Nat) : Int) := zI_shl _ 16 (by decide) (by omega)
theorem or_U2 {F : Nat → Nat} (hF : isF F) (k : Nat) : zI ((2 ^ 8 * F k : Nat) : Int) ||| zI (F (k + 1) : Int) = zI (U2 F k : Int) := by
  have := hF (k + 1)
  rw [zI_or 8 (by omega)]
  exact zI_c (by unfold U2; omega)
theorem or_U4 {F : Nat → Nat} (hF : isF F) (k : Nat) : zI ((2 ^ 16 * U2 F k : Nat) : Int) ||| zI (U2 F (k + 2) : Int) = zI (U4 F k : Int) := by
  have := U2_lt hF (k + 2)
  rw [zI_or 16 (by omega)]
  exact zI_c (by unfold U4; omega)
