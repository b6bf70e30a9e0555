/-! ints as whole numbers: zI t; rows over them -/
abbrev zN (n : Nat) : Value := .int (zI (n : Int))
abbrev zV (t : Int) : Value := .int (zI t)
def bI (b : Bool) : Int := if b then 1 else 0
theorem zI_nat (n : Nat) : zI (n : Int) = nI n := Int32.ofInt_eq_ofNat
theorem zI_add (a b : Int) : zI a + zI b = zI (a + b) := (Int32.ofInt_add a b).symm
theorem zI_sub (a b : Int) : zI a - zI b = zI (a - b) := (Int32.ofInt_sub a b).symm
theorem zI_mul (a b : Int) : zI a * zI b = zI (a * b) := (Int32.ofInt_mul a b).symm
theorem zL_add (a b : Int) : zL a + zL b = zL (a + b) := (Int64.ofInt_add a b).symm
theorem zL_sub (a b : Int) : zL a - zL b = zL (a - b) := (Int64.ofInt_sub a b).symm
theorem zL_i (a : Int) : (zL a).toInt32 = zI a := Int64.toInt32_ofInt
theorem zI_toInt {a : Int} (h : -2147483648 ≤ a ∧ a < 2147483648) : (zI a).toInt = a := Int32.toInt_ofInt_of_le (by omega) (by omega)
theorem zL_toInt {a : Int} (h : -9223372036854775808 ≤ a ∧ a < 9223372036854775808) : (zL a).toInt = a := Int64.toInt_ofInt_of_le (by omega) (by omega)
theorem zI_l {a : Int} (h : -2147483648 ≤ a ∧ a < 2147483648) : (zI a).toInt64 = zL a := Int64.toInt_inj.mp (by rw [Int32.toInt_toInt64, zI_toInt h, zL_toInt (by omega)])
theorem zI_lt {a b : Int} (h : -2147483648 ≤ a ∧ a < 2147483648 ∧ -2147483648 ≤ b ∧ b < 2147483648) : zI a < zI b ↔ a < b := by rw [Int32.lt_iff_toInt_lt, zI_toInt ⟨h.1, h.2.1⟩, zI_toInt h.2.2]
theorem zI_le {a b : Int} (h : -2147483648 ≤ a ∧ a < 2147483648 ∧ -2147483648 ≤ b ∧ b < 2147483648) : zI a ≤ zI b ↔ a ≤ b := by rw [Int32.le_iff_toInt_le, zI_toInt ⟨h.1, h.2.1⟩, zI_toInt h.2.2]
theorem zI_eq {a b : Int} (h : -2147483648 ≤ a ∧ a < 2147483648 ∧ -2147483648 ≤ b ∧ b < 2147483648) : zI a = zI b ↔ a = b := by rw [← Int32.toInt_inj, zI_toInt ⟨h.1, h.2.1⟩, zI_toInt h.2.2]
theorem zI_of (x : Int32) : x = zI x.toInt := (Int32.ofInt_toInt x).symm
theorem zI_rg (x : Int32) : -2147483648 ≤ x.toInt ∧ x.toInt < 2147483648 := ⟨Int32.le_toInt x, Int32.toInt_lt x⟩
theorem zI_c {a b : Int} (h : a = b) : zI a = zI b := by rw [h]
section ZN
variable {p : Program} {l : Launch} {e : Env} {R : Room} {s : State} {m : MethodId} {args : Array Value} {below : List Frame} {meth : Method} {c : Code} {H : Heap} {locs : List Loc} {cells slots : Nat} {Q : State → Prop}
variable {Z : zT} {A : Nat → Prop} {cc : ByteArray} {nL : Nat} {own : String} {ret : Option FieldType} {pc : Nat} {ls : Array Slot} {rest : List Value}
theorem z_re {x y : Int32} (h : x = y) (k : W p l e R s m args below meth c H locs cells slots Q (F0 m pc ls (.int y :: rest))) : W p l e R s m args below meth c H locs cells slots Q (F0 m pc ls (.int x :: rest)) := h ▸ k
theorem z_reL {x y : Int64} (h : x = y) (k : W p l e R s m args below meth c H locs cells slots Q (F0 m pc ls (.long y :: rest))) : W p l e R s m args below meth c H locs cells slots Q (F0 m pc ls (.long x :: rest)) := h ▸ k
theorem z_reV {x y : Value} (h : x = y) (k : W p l e R s m args below meth c H locs cells slots Q (F0 m pc ls (y :: rest))) : W p l e R s m args below meth c H locs cells slots Q (F0 m pc ls (x :: rest)) := h ▸ k
theorem y_iadd (C : zC Z A p s m args meth c cc nL own ret) {a b : Int} (hdg : decode cc pc = .ok (.iadd, 1)) (k : W p l e R s m args below meth c H locs cells slots Q (F0 m (pc + 1) ls (zV (a + b) :: rest))) : W p l e R s m args below meth c H locs cells slots Q (F0 m pc ls (zV b :: zV a :: rest)) := lv_iadd C.1 C.2.1 hdg (by rw [zI_add]; exact k)
theorem y_isub (C : zC Z A p s m args meth c cc nL own ret) {a b : Int} (hdg : decode cc pc = .ok (.isub, 1)) (k : W p l e R s m args below meth c H locs cells slots Q (F0 m (pc + 1) ls (zV (a - b) :: rest))) : W p l e R s m args below meth c H locs cells slots Q (F0 m pc ls (zV b :: zV a :: rest)) := lv_isub C.1 C.2.1 hdg (by rw [zI_sub]; exact k)
theorem y_imul (C : zC Z A p s m args meth c cc nL own ret) {a b : Int} (hdg : decode cc pc = .ok (.imul, 1)) (k : W p l e R s m args below meth c H locs cells slots Q (F0 m (pc + 1) ls (zV (a * b) :: rest))) : W p l e R s m args below meth c H locs cells slots Q (F0 m pc ls (zV b :: zV a :: rest)) := lv_imul C.1 C.2.1 hdg (by rw [zI_mul]; exact k)
theorem y_iaddN (C : zC Z A p s m args meth c cc nL own ret) {a b : Nat} (hdg : decode cc pc = .ok (.iadd, 1)) (k : W p l e R s m args below meth c H locs cells slots Q (F0 m (pc + 1) ls (zN (a + b) :: rest))) : W p l e R s m args below meth c H locs cells slots Q (F0 m pc ls (zN b :: zN a :: rest)) := y_iadd C hdg k
theorem y_imulN (C : zC Z A p s m args meth c cc nL own ret) {a b : Nat} (hdg : decode cc pc = .ok (.imul, 1)) (k : W p l e R s m args below meth c H locs cells slots Q (F0 m (pc + 1) ls (zN (a * b) :: rest))) : W p l e R s m args below meth c H locs cells slots Q (F0 m pc ls (zN b :: zN a :: rest)) := y_imul C hdg k
theorem y_isubN (C : zC Z A p s m args meth c cc nL own ret) {a b : Nat} (h : b ≤ a) (hdg : decode cc pc = .ok (.isub, 1)) (k : W p l e R s m args below meth c H locs cells slots Q (F0 m (pc + 1) ls (zN (a - b) :: rest))) : W p l e R s m args below meth c H locs cells slots Q (F0 m pc ls (zN b :: zN a :: rest)) := y_isub C hdg (by rw [← Int.ofNat_sub h]; exact k)
theorem y_ladd (C : zC Z A p s m args meth c cc nL own ret) {a b : Int} (hdg : decode cc pc = .ok (.ladd, 1)) (k : W p l e R s m args below meth c H locs cells slots Q (F0 m (pc + 1) ls (.long (zL (a + b)) :: rest))) : W p l e R s m args below meth c H locs cells slots Q (F0 m pc ls (.long (zL b) :: .long (zL a) :: rest)) := lv_ladd C.1 C.2.1 hdg (by rw [zL_add]; exact k)
theorem y_lsub (C : zC Z A p s m args meth c cc nL own ret) {a b : Int} (hdg : decode cc pc = .ok (.lsub, 1)) (k : W p l e R s m args below meth c H locs cells slots Q (F0 m (pc + 1) ls (.long (zL (a - b)) :: rest))) : W p l e R s m args below meth c H locs cells slots Q (F0 m pc ls (.long (zL b) :: .long (zL a) :: rest)) := lv_lsub C.1 C.2.1 hdg (by rw [zL_sub]; exact k)
theorem y_i2l (C : zC Z A p s m args meth c cc nL own ret) {a : Int} (h : -2147483648 ≤ a ∧ a < 2147483648) (hdg : decode cc pc = .ok (.i2l, 1)) (k : W p l e R s m args below meth c H locs cells slots Q (F0 m (pc + 1) ls (.long (zL a) :: rest))) : W p l e R s m args below meth c H locs cells slots Q (F0 m pc ls (zV a :: rest)) := lv_i2l C.1 C.2.1 hdg (zI_l h) k
theorem y_l2i (C : zC Z A p s m args meth c cc nL own ret) {a : Int} (hdg : decode cc pc = .ok (.l2i, 1)) (k : W p l e R s m args below meth c H locs cells slots Q (F0 m (pc + 1) ls (zV a :: rest))) : W p l e R s m args below meth c H locs cells slots Q (F0 m pc ls (.long (zL a) :: rest)) := lv_l2i C.1 C.2.1 hdg (zL_i a) k
theorem y_icmp_lt (C : zC Z A p s m args meth c cc nL own ret) {a b : Int} {off : Int} {tgt : Nat} (hdg : decode cc pc = .ok (.if_icmp .lt off, 3)) (ht : (pc : Int) + off = (tgt : Int)) (hr : -2147483648 ≤ a ∧ a < 2147483648 ∧ -2147483648 ≤ b ∧ b < 2147483648)
    (kt : a < b → W p l e R s m args below meth c H locs cells slots Q (F0 m tgt ls rest)) (kf : b ≤ a → W p l e R s m args below meth c H locs cells slots Q (F0 m (pc + 3) ls rest)) : W p l e R s m args below meth c H locs cells slots Q (F0 m pc ls (zV b :: zV a :: rest)) :=
  lv_icmp_lt C.1 C.2.1 hdg ht (fun h => kt ((zI_lt hr).mp h)) (fun h => kf (Int.not_lt.mp (fun z => h ((zI_lt hr).mpr z))))
theorem y_if_lt (C : zC Z A p s m args meth c cc nL own ret) {a : Int} {off : Int} {tgt : Nat} (hdg : decode cc pc = .ok (.ifCond .lt off, 3)) (ht : (pc : Int) + off = (tgt : Int)) (hr0 : -2147483648 ≤ a ∧ a < 2147483648)
    (kt : a < 0 → W p l e R s m args below meth c H locs cells slots Q (F0 m tgt ls rest)) (kf : 0 ≤ a → W p l e R s m args below meth c H locs cells slots Q (F0 m (pc + 3) ls rest)) : W p l e R s m args below meth c H locs cells slots Q (F0 m pc ls (zV a :: rest)) := by
  have hr : -2147483648 ≤ a ∧ a < 2147483648 ∧ (-2147483648 : Int) ≤ 0 ∧ (0 : Int) < 2147483648 := by omega
  exact lv_if_lt C.1 C.2.1 hdg ht (fun h => kt ((zI_lt hr).mp h)) (fun h => kf (Int.not_lt.mp (fun z => h ((zI_lt hr).mpr z))))
theorem y_icmp_ge (C : zC Z A p s m args meth c cc nL own ret) {a b : Int} {off : Int} {tgt : Nat} (hdg : decode cc pc = .ok (.if_icmp .ge off, 3)) (ht : (pc : Int) + off = (tgt : Int)) (hr : -2147483648 ≤ a ∧ a < 2147483648 ∧ -2147483648 ≤ b ∧ b < 2147483648)
    (kt : b ≤ a → W p l e R s m args below meth c H locs cells slots Q (F0 m tgt ls rest)) (kf : a < b → W p l e R s m args below meth c H locs cells slots Q (F0 m (pc + 3) ls rest)) : W p l e R s m args below meth c H locs cells slots Q (F0 m pc ls (zV b :: zV a :: rest)) :=
  lv_icmp_ge C.1 C.2.1 hdg ht (fun h => kt ((zI_le ⟨hr.2.2.1, hr.2.2.2, hr.1, hr.2.1⟩).mp h)) (fun h => kf (Int.not_le.mp (fun z => h ((zI_le ⟨hr.2.2.1, hr.2.2.2, hr.1, hr.2.1⟩).mpr z))))
theorem y_if_ge (C : zC Z A p s m args meth c cc nL own ret) {a : Int} {off : Int} {tgt : Nat} (hdg : decode cc pc = .ok (.ifCond .ge off, 3)) (ht : (pc : Int) + off = (tgt : Int)) (hr0 : -2147483648 ≤ a ∧ a < 2147483648)
    (kt : 0 ≤ a → W p l e R s m args below meth c H locs cells slots Q (F0 m tgt ls rest)) (kf : a < 0 → W p l e R s m args below meth c H locs cells slots Q (F0 m (pc + 3) ls rest)) : W p l e R s m args below meth c H locs cells slots Q (F0 m pc ls (zV a :: rest)) := by
  have hr : -2147483648 ≤ a ∧ a < 2147483648 ∧ (-2147483648 : Int) ≤ 0 ∧ (0 : Int) < 2147483648 := by omega
  exact lv_if_ge C.1 C.2.1 hdg ht (fun h => kt ((zI_le ⟨hr.2.2.1, hr.2.2.2, hr.1, hr.2.1⟩).mp h)) (fun h => kf (Int.not_le.mp (fun z => h ((zI_le ⟨hr.2.2.1, hr.2.2.2, hr.1, hr.2.1⟩).mpr z))))
theorem y_icmp_gt (C : zC Z A p s m args meth c cc nL own ret) {a b : Int} {off : Int} {tgt : Nat} (hdg : decode cc pc = .ok (.if_icmp .gt off, 3)) (ht : (pc : Int) + off = (tgt : Int)) (hr : -2147483648 ≤ a ∧ a < 2147483648 ∧ -2147483648 ≤ b ∧ b < 2147483648)
    (kt : b < a → W p l e R s m args below meth c H locs cells slots Q (F0 m tgt ls rest)) (kf : a ≤ b → W p l e R s m args below meth c H locs cells slots Q (F0 m (pc + 3) ls rest)) : W p l e R s m args below meth c H locs cells slots Q (F0 m pc ls (zV b :: zV a :: rest)) :=
  lv_icmp_gt C.1 C.2.1 hdg ht (fun h => kt ((zI_lt ⟨hr.2.2.1, hr.2.2.2, hr.1, hr.2.1⟩).mp h)) (fun h => kf (Int.not_lt.mp (fun z => h ((zI_lt ⟨hr.2.2.1, hr.2.2.2, hr.1, hr.2.1⟩).mpr z))))
theorem y_if_gt (C : zC Z A p s m args meth c cc nL own ret) {a : Int} {off : Int} {tgt : Nat} (hdg : decode cc pc = .ok (.ifCond .gt off, 3)) (ht : (pc : Int) + off = (tgt : Int)) (hr0 : -2147483648 ≤ a ∧ a < 2147483648)
    (kt : 0 < a → W p l e R s m args below meth c H locs cells slots Q (F0 m tgt ls rest)) (kf : a ≤ 0 → W p l e R s m args below meth c H locs cells slots Q (F0 m (pc + 3) ls rest)) : W p l e R s m args below meth c H locs cells slots Q (F0 m pc ls (zV a :: rest)) := by
  have hr : -2147483648 ≤ a ∧ a < 2147483648 ∧ (-2147483648 : Int) ≤ 0 ∧ (0 : Int) < 2147483648 := by omega
  exact lv_if_gt C.1 C.2.1 hdg ht (fun h => kt ((zI_lt ⟨hr.2.2.1, hr.2.2.2, hr.1, hr.2.1⟩).mp h)) (fun h => kf (Int.not_lt.mp (fun z => h ((zI_lt ⟨hr.2.2.1, hr.2.2.2, hr.1, hr.2.1⟩).mpr z))))
theorem y_icmp_le (C : zC Z A p s m args meth c cc nL own ret) {a b : Int} {off : Int} {tgt : Nat} (hdg : decode cc pc = .ok (.if_icmp .le off, 3)) (ht : (pc : Int) + off = (tgt : Int)) (hr : -2147483648 ≤ a ∧ a < 2147483648 ∧ -2147483648 ≤ b ∧ b < 2147483648)
    (kt : a ≤ b → W p l e R s m args below meth c H locs cells slots Q (F0 m tgt ls rest)) (kf : b < a → W p l e R s m args below meth c H locs cells slots Q (F0 m (pc + 3) ls rest)) : W p l e R s m args below meth c H locs cells slots Q (F0 m pc ls (zV b :: zV a :: rest)) :=
  lv_icmp_le C.1 C.2.1 hdg ht (fun h => kt ((zI_le hr).mp h)) (fun h => kf (Int.not_le.mp (fun z => h ((zI_le hr).mpr z))))
theorem y_if_le (C : zC Z A p s m args meth c cc nL own ret) {a : Int} {off : Int} {tgt : Nat} (hdg : decode cc pc = .ok (.ifCond .le off, 3)) (ht : (pc : Int) + off = (tgt : Int)) (hr0 : -2147483648 ≤ a ∧ a < 2147483648)
    (kt : a ≤ 0 → W p l e R s m args below meth c H locs cells slots Q (F0 m tgt ls rest)) (kf : 0 < a → W p l e R s m args below meth c H locs cells slots Q (F0 m (pc + 3) ls rest)) : W p l e R s m args below meth c H locs cells slots Q (F0 m pc ls (zV a :: rest)) := by
  have hr : -2147483648 ≤ a ∧ a < 2147483648 ∧ (-2147483648 : Int) ≤ 0 ∧ (0 : Int) < 2147483648 := by omega
  exact lv_if_le C.1 C.2.1 hdg ht (fun h => kt ((zI_le hr).mp h)) (fun h => kf (Int.not_le.mp (fun z => h ((zI_le hr).mpr z))))
theorem y_icmp_eq (C : zC Z A p s m args meth c cc nL own ret) {a b : Int} {off : Int} {tgt : Nat} (hdg : decode cc pc = .ok (.if_icmp .eq off, 3)) (ht : (pc : Int) + off = (tgt : Int)) (hr : -2147483648 ≤ a ∧ a < 2147483648 ∧ -2147483648 ≤ b ∧ b < 2147483648)
    (kt : a = b → W p l e R s m args below meth c H locs cells slots Q (F0 m tgt ls rest)) (kf : ¬ a = b → W p l e R s m args below meth c H locs cells slots Q (F0 m (pc + 3) ls rest)) : W p l e R s m args below meth c H locs cells slots Q (F0 m pc ls (zV b :: zV a :: rest)) :=
  lv_icmp_eq C.1 C.2.1 hdg ht (fun h => kt ((zI_eq hr).mp h)) (fun h => kf (fun z => h ((zI_eq hr).mpr z)))
theorem y_if_eq (C : zC Z A p s m args meth c cc nL own ret) {a : Int} {off : Int} {tgt : Nat} (hdg : decode cc pc = .ok (.ifCond .eq off, 3)) (ht : (pc : Int) + off = (tgt : Int)) (hr0 : -2147483648 ≤ a ∧ a < 2147483648)
    (kt : a = 0 → W p l e R s m args below meth c H locs cells slots Q (F0 m tgt ls rest)) (kf : ¬ a = 0 → W p l e R s m args below meth c H locs cells slots Q (F0 m (pc + 3) ls rest)) : W p l e R s m args below meth c H locs cells slots Q (F0 m pc ls (zV a :: rest)) := by
  have hr : -2147483648 ≤ a ∧ a < 2147483648 ∧ (-2147483648 : Int) ≤ 0 ∧ (0 : Int) < 2147483648 := by omega
  exact lv_if_eq C.1 C.2.1 hdg ht (fun h => kt ((zI_eq hr).mp h)) (fun h => kf (fun z => h ((zI_eq hr).mpr z)))
theorem y_icmp_ne (C : zC Z A p s m args meth c cc nL own ret) {a b : Int} {off : Int} {tgt : Nat} (hdg : decode cc pc = .ok (.if_icmp .ne off, 3)) (ht : (pc : Int) + off = (tgt : Int)) (hr : -2147483648 ≤ a ∧ a < 2147483648 ∧ -2147483648 ≤ b ∧ b < 2147483648)
    (kt : ¬ a = b → W p l e R s m args below meth c H locs cells slots Q (F0 m tgt ls rest)) (kf : a = b → W p l e R s m args below meth c H locs cells slots Q (F0 m (pc + 3) ls rest)) : W p l e R s m args below meth c H locs cells slots Q (F0 m pc ls (zV b :: zV a :: rest)) :=
  lv_icmp_ne C.1 C.2.1 hdg ht (fun h => kt (fun z => h ((zI_eq hr).mpr z))) (fun h => kf ((zI_eq hr).mp h))
theorem y_if_ne (C : zC Z A p s m args meth c cc nL own ret) {a : Int} {off : Int} {tgt : Nat} (hdg : decode cc pc = .ok (.ifCond .ne off, 3)) (ht : (pc : Int) + off = (tgt : Int)) (hr0 : -2147483648 ≤ a ∧ a < 2147483648)
    (kt : ¬ a = 0 → W p l e R s m args below meth c H locs cells slots Q (F0 m tgt ls rest)) (kf : a = 0 → W p l e R s m args below meth c H locs cells slots Q (F0 m (pc + 3) ls rest)) : W p l e R s m args below meth c H locs cells slots Q (F0 m pc ls (zV a :: rest)) := by
  have hr : -2147483648 ≤ a ∧ a < 2147483648 ∧ (-2147483648 : Int) ≤ 0 ∧ (0 : Int) < 2147483648 := by omega
  exact lv_if_ne C.1 C.2.1 hdg ht (fun h => kt (fun z => h ((zI_eq hr).mpr z))) (fun h => kf ((zI_eq hr).mp h))
theorem y_ifb_eq (C : zC Z A p s m args meth c cc nL own ret) {b : Bool} {off : Int} {tgt : Nat} (hdg : decode cc pc = .ok (.ifCond .eq off, 3)) (ht : (pc : Int) + off = (tgt : Int))
    (kt : b = false → W p l e R s m args below meth c H locs cells slots Q (F0 m tgt ls rest)) (kf : b = true → W p l e R s m args below meth c H locs cells slots Q (F0 m (pc + 3) ls rest)) : W p l e R s m args below meth c H locs cells slots Q (F0 m pc ls (zV (bI b) :: rest)) :=
  y_if_eq C hdg ht (by cases b <;> decide) (fun h => kt (by cases b <;> first | rfl | (exact absurd h (by decide)))) (fun h => kf (by cases b <;> first | rfl | (exact absurd h (by decide))))
theorem y_ifb_ne (C : zC Z A p s m args meth c cc nL own ret) {b : Bool} {off : Int} {tgt : Nat} (hdg : decode cc pc = .ok (.ifCond .ne off, 3)) (ht : (pc : Int) + off = (tgt : Int))
    (kt : b = true → W p l e R s m args below meth c H locs cells slots Q (F0 m tgt ls rest)) (kf : b = false → W p l e R s m args below meth c H locs cells slots Q (F0 m (pc + 3) ls rest)) : W p l e R s m args below meth c H locs cells slots Q (F0 m pc ls (zV (bI b) :: rest)) :=
  y_if_ne C hdg ht (by cases b <;> decide) (fun h => kt (by cases b <;> first | rfl | (exact absurd h (by decide)))) (fun h => kf (by cases b <;> first | rfl | (exact absurd h (by decide))))
theorem zL_cmp {a b : Int} (hr : -9223372036854775808 ≤ a ∧ a < 9223372036854775808 ∧ -9223372036854775808 ≤ b ∧ b < 9223372036854775808) : lg_cmp (zL a) (zL b) = zI (if b < a then 1 else if a = b then 0 else -1) := by
  have h1 := zL_toInt ⟨hr.1, hr.2.1⟩
  have h2 := zL_toInt hr.2.2
  have e1 : (zL a > zL b) ↔ b < a := by rw [gt_iff_lt, Int64.lt_iff_toInt_lt, h1, h2]
  have e2 : (zL a = zL b) ↔ a = b := by rw [← Int64.toInt_inj, h1, h2]
  unfold lg_cmp
  by_cases c1 : b < a
  · rw [if_pos (e1.mpr c1), if_pos c1]; rfl
  · rw [if_neg (fun z => c1 (e1.mp z)), if_neg c1]
    by_cases c2 : a = b
    · rw [if_pos (e2.mpr c2), if_pos c2]; rfl
    · rw [if_neg (fun z => c2 (e2.mp z)), if_neg c2]; rfl
theorem y_lif_lt (C : zC Z A p s m args meth c cc nL own ret) {a b : Int} {off : Int} {tgt : Nat} (hdg0 : decode cc pc = .ok (.lcmp, 1)) (hdg : decode cc (pc + 1) = .ok (.ifCond .lt off, 3)) (ht : ((pc + 1 : Nat) : Int) + off = (tgt : Int)) (hr : -9223372036854775808 ≤ a ∧ a < 9223372036854775808 ∧ -9223372036854775808 ≤ b ∧ b < 9223372036854775808)
    (kt : a < b → W p l e R s m args below meth c H locs cells slots Q (F0 m tgt ls rest)) (kf : b ≤ a → W p l e R s m args below meth c H locs cells slots Q (F0 m (pc + 4) ls rest)) : W p l e R s m args below meth c H locs cells slots Q (F0 m pc ls (.long (zL b) :: .long (zL a) :: rest)) := by
  refine W.lcmp C.1 C.2.1 hdg0 ?_
  refine z_re (zL_cmp hr) ?_
  refine y_if_lt C hdg ht ?_ (fun h => kt ?_) (fun h => kf ?_)
  all_goals (repeat' split at *)
  all_goals omega
theorem y_lif_ge (C : zC Z A p s m args meth c cc nL own ret) {a b : Int} {off : Int} {tgt : Nat} (hdg0 : decode cc pc = .ok (.lcmp, 1)) (hdg : decode cc (pc + 1) = .ok (.ifCond .ge off, 3)) (ht : ((pc + 1 : Nat) : Int) + off = (tgt : Int)) (hr : -9223372036854775808 ≤ a ∧ a < 9223372036854775808 ∧ -9223372036854775808 ≤ b ∧ b < 9223372036854775808)
    (kt : b ≤ a → W p l e R s m args below meth c H locs cells slots Q (F0 m tgt ls rest)) (kf : a < b → W p l e R s m args below meth c H locs cells slots Q (F0 m (pc + 4) ls rest)) : W p l e R s m args below meth c H locs cells slots Q (F0 m pc ls (.long (zL b) :: .long (zL a) :: rest)) := by
  refine W.lcmp C.1 C.2.1 hdg0 ?_
  refine z_re (zL_cmp hr) ?_
  refine y_if_ge C hdg ht ?_ (fun h => kt ?_) (fun h => kf ?_)
  all_goals (repeat' split at *)
  all_goals omega
theorem y_lif_gt (C : zC Z A p s m args meth c cc nL own ret) {a b : Int} {off : Int} {tgt : Nat} (hdg0 : decode cc pc = .ok (.lcmp, 1)) (hdg : decode cc (pc + 1) = .ok (.ifCond .gt off, 3)) (ht : ((pc + 1 : Nat) : Int) + off = (tgt : Int)) (hr : -9223372036854775808 ≤ a ∧ a < 9223372036854775808 ∧ -9223372036854775808 ≤ b ∧ b < 9223372036854775808)
    (kt : b < a → W p l e R s m args below meth c H locs cells slots Q (F0 m tgt ls rest)) (kf : a ≤ b → W p l e R s m args below meth c H locs cells slots Q (F0 m (pc + 4) ls rest)) : W p l e R s m args below meth c H locs cells slots Q (F0 m pc ls (.long (zL b) :: .long (zL a) :: rest)) := by
  refine W.lcmp C.1 C.2.1 hdg0 ?_
  refine z_re (zL_cmp hr) ?_
  refine y_if_gt C hdg ht ?_ (fun h => kt ?_) (fun h => kf ?_)
  all_goals (repeat' split at *)
  all_goals omega
theorem y_lif_le (C : zC Z A p s m args meth c cc nL own ret) {a b : Int} {off : Int} {tgt : Nat} (hdg0 : decode cc pc = .ok (.lcmp, 1)) (hdg : decode cc (pc + 1) = .ok (.ifCond .le off, 3)) (ht : ((pc + 1 : Nat) : Int) + off = (tgt : Int)) (hr : -9223372036854775808 ≤ a ∧ a < 9223372036854775808 ∧ -9223372036854775808 ≤ b ∧ b < 9223372036854775808)
    (kt : a ≤ b → W p l e R s m args below meth c H locs cells slots Q (F0 m tgt ls rest)) (kf : b < a → W p l e R s m args below meth c H locs cells slots Q (F0 m (pc + 4) ls rest)) : W p l e R s m args below meth c H locs cells slots Q (F0 m pc ls (.long (zL b) :: .long (zL a) :: rest)) := by
  refine W.lcmp C.1 C.2.1 hdg0 ?_
  refine z_re (zL_cmp hr) ?_
  refine y_if_le C hdg ht ?_ (fun h => kt ?_) (fun h => kf ?_)
  all_goals (repeat' split at *)
  all_goals omega
theorem y_lif_eq (C : zC Z A p s m args meth c cc nL own ret) {a b : Int} {off : Int} {tgt : Nat} (hdg0 : decode cc pc = .ok (.lcmp, 1)) (hdg : decode cc (pc + 1) = .ok (.ifCond .eq off, 3)) (ht : ((pc + 1 : Nat) : Int) + off = (tgt : Int)) (hr : -9223372036854775808 ≤ a ∧ a < 9223372036854775808 ∧ -9223372036854775808 ≤ b ∧ b < 9223372036854775808)
    (kt : a = b → W p l e R s m args below meth c H locs cells slots Q (F0 m tgt ls rest)) (kf : ¬ a = b → W p l e R s m args below meth c H locs cells slots Q (F0 m (pc + 4) ls rest)) : W p l e R s m args below meth c H locs cells slots Q (F0 m pc ls (.long (zL b) :: .long (zL a) :: rest)) := by
  refine W.lcmp C.1 C.2.1 hdg0 ?_
  refine z_re (zL_cmp hr) ?_
  refine y_if_eq C hdg ht ?_ (fun h => kt ?_) (fun h => kf ?_)
  all_goals (repeat' split at *)
  all_goals omega
theorem y_lif_ne (C : zC Z A p s m args meth c cc nL own ret) {a b : Int} {off : Int} {tgt : Nat} (hdg0 : decode cc pc = .ok (.lcmp, 1)) (hdg : decode cc (pc + 1) = .ok (.ifCond .ne off, 3)) (ht : ((pc + 1 : Nat) : Int) + off = (tgt : Int)) (hr : -9223372036854775808 ≤ a ∧ a < 9223372036854775808 ∧ -9223372036854775808 ≤ b ∧ b < 9223372036854775808)
    (kt : ¬ a = b → W p l e R s m args below meth c H locs cells slots Q (F0 m tgt ls rest)) (kf : a = b → W p l e R s m args below meth c H locs cells slots Q (F0 m (pc + 4) ls rest)) : W p l e R s m args below meth c H locs cells slots Q (F0 m pc ls (.long (zL b) :: .long (zL a) :: rest)) := by
  refine W.lcmp C.1 C.2.1 hdg0 ?_
  refine z_re (zL_cmp hr) ?_
  refine y_if_ne C hdg ht ?_ (fun h => kt ?_) (fun h => kf ?_)
  all_goals (repeat' split at *)
  all_goals omega
end ZN
