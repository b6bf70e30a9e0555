/-! the component: how instructions are written -/
theorem neg_and3 (k : Nat) (h : k < 65536) : -(zI ((k + 1 : Nat) : Int)) &&& zI 3 = zI ((3 - k % 4 : Nat) : Int) := by
  apply Int32.toBitVec_inj.mp
  show (-(BitVec.ofInt 32 ((k + 1 : Nat) : Int))) &&& (BitVec.ofInt 32 3) = BitVec.ofInt 32 ((3 - k % 4 : Nat) : Int)
  apply BitVec.eq_of_toNat_eq
  rw [BitVec.toNat_and, BitVec.toNat_neg, BitVec.toNat_ofInt, BitVec.toNat_ofInt, BitVec.toNat_ofInt]
  rw [show ((3 : Int) % (2 ^ 32 : Nat)).toNat = 2 ^ 2 - 1 from by decide, Nat.and_two_pow_sub_one_eq_mod]
  omega
theorem div4 {a : Nat} (h : a < 32) : zI (a : Int) / zI 4 = zI ((a / 4 : Nat) : Int) := by
  have : ∀ a : Nat, a < 32 → zI (a : Int) / zI 4 = zI ((a / 4 : Nat) : Int) := by decide +kernel
  exact this a h
theorem rem4 {a : Nat} (h : a < 32) : zI (a : Int) - zI (a : Int) / zI 4 * zI 4 = zI ((a % 4 : Nat) : Int) := by
  have : ∀ a : Nat, a < 32 → zI (a : Int) - zI (a : Int) / zI 4 * zI 4 = zI ((a % 4 : Nat) : Int) := by decide +kernel
  exact this a h
def lkOk (F : Nat → Nat) (n ca w : Nat) : Nat → Nat → Bool
  | 0, _ => true
  | c + 1, i => if B4 F n ((ca + w + 8 + 8 * i : Nat) : Int) ≤ B4 F n ((ca + w + 8 * i : Nat) : Int) then false else lkOk F n ca w c (i + 1)
def tlC (F : Nat → Nat) (n ca k : Nat) : Int := if B4 F n ((ca + swF k + 8 : Nat) : Int) - B4 F n ((ca + swF k + 4 : Nat) : Int) < 0 ∨ 200 < B4 F n ((ca + swF k + 8 : Nat) : Int) - B4 F n ((ca + swF k + 4 : Nat) : Int) then 0 else (swF k : Int) + 12 + 4 * (B4 F n ((ca + swF k + 8 : Nat) : Int) - B4 F n ((ca + swF k + 4 : Nat) : Int) + 1) - k
def llC (F : Nat → Nat) (n ca k : Nat) : Int := if B4 F n ((ca + swF k + 4 : Nat) : Int) < 0 ∨ 200 < B4 F n ((ca + swF k + 4 : Nat) : Int) then 0 else if lkOk F n ca (swF k) ((B4 F n ((ca + swF k + 4 : Nat) : Int)).toNat - 1) 1 = true then (swF k : Int) + 8 + 8 * B4 F n ((ca + swF k + 4 : Nat) : Int) - k else 0
def lnC (F : Nat → Nat) (n ca k : Nat) : Int := if F (ca + k) = 170 then tlC F n ca k else if F (ca + k) = 171 then llC F n ca k else if F (ca + k) = 196 then wdN (B1 F n ((ca + k + 1 : Nat) : Int)) else if F (ca + k) = 188 then (if B1 F n ((ca + k + 1 : Nat) : Int) = 10 then 2 else 0) else if F (ca + k) < 201 then (lens (F (ca + k)) : Int) else 0
def kdC (b : Nat) : Nat := if (2 ≤ b ∧ b ≤ 8) ∨ (16 ≤ b ∧ b ≤ 19) then 300 else if b = 9 ∨ b = 10 ∨ b = 20 then 301 else if 26 ≤ b ∧ b ≤ 45 then 21 + (b - 26) / 4 else if 59 ≤ b ∧ b ≤ 78 then 54 + (b - 59) / 4 else if b = 200 then 167 else b
def ocC (F : Nat → Nat) (p : Nat) : Nat := if F p = 196 then F (p + 1) else F p
def loC (F : Nat → Nat) (p : Nat) : Nat := if F p = 196 then U2 F (p + 2) else if 26 ≤ F p ∧ F p ≤ 45 then (F p - 26) % 4 else if 59 ≤ F p ∧ F p ≤ 78 then (F p - 59) % 4 else F (p + 1)
def enC (F : Nat → Nat) (p : Nat) : Nat := if F p = 18 then F (p + 1) else if F p = 19 ∨ F p = 20 ∨ F p = 178 ∨ F p = 179 ∨ F p = 184 then U2 F (p + 1) else 0
theorem lens_lt (k : Nat) : lens k < 256 := by
  have h : ∀ x ∈ lensL, x < 256 := by decide +kernel
  unfold lens
  rw [List.getD_eq_getElem?_getD]
  cases e : lensL[k]? with
  | none => decide
  | some x => exact h x (List.mem_of_getElem? e)

set_option maxHeartbeats 4000000 in
set_option maxRecDepth 20000 in
theorem c_X3_switchHead (l : Launch) (Z : zT) {H : Heap} {ca k : Nat} (hk : ca + k < 60000) : zP l Z yX3_switchHead cX3_switchHead 3 (some .int) (rmk 1) [zN (ca + k), zN ca] H (zN (ca + swF k)) := by
  refine zM.introI (own := RX3) ⟨by decide, rfl⟩ (Nat.le_of_ble_eq_true rfl) ?_
  intro p e s m args below meth c Q ls hH C hl hret
  have hS : va_S (fun _ => False) s.heap H [] := by rw [hH]; exact va_S.rf
  have hl : lv_has ls 3 [(0, zN (ca + k)), (1, zN ca)] := hl
  refine lv_iload_n C.1 C.2.1 dX3_switchHead_0 rfl (lv_at hl 0 rfl) ?_
  refine lv_iconst (v := zI 1) C.1 C.2.1 dX3_switchHead_1 (by decide) ?_
  refine y_iaddN C (a := ca + k) (b := 1) dX3_switchHead_2 ?_
  refine lv_iload_n C.1 C.2.1 dX3_switchHead_3 rfl (lv_at hl 1 rfl) ?_
  refine y_isub C (a := (((ca + k) + 1 : Nat) : Int)) (b := ((ca : Nat) : Int)) dX3_switchHead_4 ?_
  refine z_re (y := zI ((k + 1 : Nat) : Int)) (zI_c (by omega)) ?_
  refine lv_istore_n (lv' := [(2, zN (k + 1)), (0, zN (ca + k)), (1, zN ca)]) C.1 C.2.1 dX3_switchHead_5 rfl hl (by decide) rfl (fun ls hl => ?_)
  refine lv_iload_n C.1 C.2.1 dX3_switchHead_6 rfl (lv_at hl 1 rfl) ?_
  refine lv_iconst (v := zI 1) C.1 C.2.1 dX3_switchHead_7 (by decide) ?_
  refine y_iaddN C (a := ca + k) (b := 1) dX3_switchHead_8 ?_
  refine lv_iload_n C.1 C.2.1 dX3_switchHead_9 rfl (lv_at hl 0 rfl) ?_
  refine lv_ineg C.1 C.2.1 dX3_switchHead_10 ?_
  refine lv_iconst (v := zI 3) C.1 C.2.1 dX3_switchHead_11 (by decide) ?_
  refine lv_iand C.1 C.2.1 dX3_switchHead_12 ?_
  refine z_re (y := zI ((3 - k % 4 : Nat) : Int)) (neg_and3 k (by omega)) ?_
  refine y_iaddN C (a := (ca + k) + 1) (b := 3 - k % 4) dX3_switchHead_13 ?_
  refine z_re (y := zI ((ca + swF k : Nat) : Int)) (zI_c (by unfold swF; omega)) ?_
  exact hret _ _ _ _ (zI ((ca + swF k : Nat) : Int)) hS ⟨rfl, rfl⟩ rfl dX3_switchHead_14

set_option maxHeartbeats 4000000 in
set_option maxRecDepth 20000 in
theorem c_X3_wideLength (l : Launch) (Z : zT) {H : Heap} (w : Nat) (hw : w < 256) : zP l Z yX3_wideLength cX3_wideLength 1 (some .int) (rmk 1) [zN w] H (zV (wdN w)) := by
  refine zM.introI (own := RX3) ⟨by decide, rfl⟩ (Nat.le_of_ble_eq_true rfl) ?_
  intro p e s m args below meth c Q ls hH C hl hret
  have hS : va_S (fun _ => False) s.heap H [] := by rw [hH]; exact va_S.rf
  have hl : lv_has ls 1 [(0, zN w)] := hl
  refine lv_iload_n C.1 C.2.1 dX3_wideLength_0 rfl (lv_at hl 0 rfl) ?_
  rcases (show ((w : Nat) : Int) = 21 ∨ ((w : Nat) : Int) = 22 ∨ ((w : Nat) : Int) = 25 ∨ ((w : Nat) : Int) = 54 ∨ ((w : Nat) : Int) = 55 ∨ ((w : Nat) : Int) = 58 ∨ ((w : Nat) : Int) = 132 ∨ (((w : Nat) : Int) ≠ 21 ∧ ((w : Nat) : Int) ≠ 22 ∧ ((w : Nat) : Int) ≠ 25 ∧ ((w : Nat) : Int) ≠ 54 ∧ ((w : Nat) : Int) ≠ 55 ∧ ((w : Nat) : Int) ≠ 58 ∧ ((w : Nat) : Int) ≠ 132) by omega) with h1 | h1 | h1 | h1 | h1 | h1 | h1 | h1
  · refine y_lookIn C 21 h1 dX3_wideLength_1 (by decide) (by decide) (off := 67) (by decide) (tgt := 68) (by decide) ?_
    refine lv_iconst (v := zI 4) C.1 C.2.1 dX3_wideLength_68 (by decide) ?_
    exact hret _ _ _ _ (zI 4) hS ⟨congrArg (fun x : Int => some (zV x)) (by unfold wdN; (repeat' split) <;> omega), rfl⟩ rfl dX3_wideLength_69
  · refine y_lookIn C 22 h1 dX3_wideLength_1 (by decide) (by decide) (off := 67) (by decide) (tgt := 68) (by decide) ?_
    refine lv_iconst (v := zI 4) C.1 C.2.1 dX3_wideLength_68 (by decide) ?_
    exact hret _ _ _ _ (zI 4) hS ⟨congrArg (fun x : Int => some (zV x)) (by unfold wdN; (repeat' split) <;> omega), rfl⟩ rfl dX3_wideLength_69
  · refine y_lookIn C 25 h1 dX3_wideLength_1 (by decide) (by decide) (off := 67) (by decide) (tgt := 68) (by decide) ?_
    refine lv_iconst (v := zI 4) C.1 C.2.1 dX3_wideLength_68 (by decide) ?_
    exact hret _ _ _ _ (zI 4) hS ⟨congrArg (fun x : Int => some (zV x)) (by unfold wdN; (repeat' split) <;> omega), rfl⟩ rfl dX3_wideLength_69
  · refine y_lookIn C 54 h1 dX3_wideLength_1 (by decide) (by decide) (off := 67) (by decide) (tgt := 68) (by decide) ?_
    refine lv_iconst (v := zI 4) C.1 C.2.1 dX3_wideLength_68 (by decide) ?_
    exact hret _ _ _ _ (zI 4) hS ⟨congrArg (fun x : Int => some (zV x)) (by unfold wdN; (repeat' split) <;> omega), rfl⟩ rfl dX3_wideLength_69
  · refine y_lookIn C 55 h1 dX3_wideLength_1 (by decide) (by decide) (off := 67) (by decide) (tgt := 68) (by decide) ?_
    refine lv_iconst (v := zI 4) C.1 C.2.1 dX3_wideLength_68 (by decide) ?_
    exact hret _ _ _ _ (zI 4) hS ⟨congrArg (fun x : Int => some (zV x)) (by unfold wdN; (repeat' split) <;> omega), rfl⟩ rfl dX3_wideLength_69
  · refine y_lookIn C 58 h1 dX3_wideLength_1 (by decide) (by decide) (off := 67) (by decide) (tgt := 68) (by decide) ?_
    refine lv_iconst (v := zI 4) C.1 C.2.1 dX3_wideLength_68 (by decide) ?_
    exact hret _ _ _ _ (zI 4) hS ⟨congrArg (fun x : Int => some (zV x)) (by unfold wdN; (repeat' split) <;> omega), rfl⟩ rfl dX3_wideLength_69
  · refine y_lookIn C 132 h1 dX3_wideLength_1 (by decide) (by decide) (off := 69) (by decide) (tgt := 70) (by decide) ?_
    refine lv_bipush (v := zI 6) C.1 C.2.1 dX3_wideLength_70 (by decide) ?_
    exact hret _ _ _ _ (zI 6) hS ⟨congrArg (fun x : Int => some (zV x)) (by unfold wdN; (repeat' split) <;> omega), rfl⟩ rfl dX3_wideLength_72
  · refine y_lookOut C (by omega) dX3_wideLength_1 (by decide) (fun q hq => by simp at hq; rcases hq with rfl | rfl | rfl | rfl | rfl | rfl | rfl <;> (dsimp only; omega)) (tgt := 73) (by decide) ?_
    refine lv_iconst (v := zI 0) C.1 C.2.1 dX3_wideLength_73 (by decide) ?_
    exact hret _ _ _ _ (zI 0) hS ⟨congrArg (fun x : Int => some (zV x)) (by unfold wdN; (repeat' split) <;> omega), rfl⟩ rfl dX3_wideLength_74

set_option maxHeartbeats 4000000 in
set_option maxRecDepth 20000 in
theorem c_X3_tableLength (l : Launch) (Z : zT) {H : Heap} {ad : Nat → Nat} {τ : mS} {X : List (Nat × va_E)} (hM : isC Z H ad τ X) {F : Nat → Nat} {n : Nat} (hB : cSrc τ F n) {ca k : Nat} (hk : ca + k < n) : zP l Z yX3_tableLength cX3_tableLength 6 (some .int) (rmk 3) [.ref (ad 1), zN (ca + k), zN ca] H (zV (tlC F n ca k)) := by
  have hn := hB.2.2.2
  refine zM.introI (own := RX3) ⟨by decide, rfl⟩ (Nat.le_of_ble_eq_true rfl) ?_
  intro p e s m args below meth c Q ls hH C hl hret
  have hS : va_S (fun _ => False) s.heap H [] := by rw [hH]; exact va_S.rf
  have hl : lv_has ls 6 [(0, .ref (ad 1)), (1, zN (ca + k)), (2, zN ca)] := hl
  refine lv_iload_n C.1 C.2.1 dX3_tableLength_0 rfl (lv_at hl 1 rfl) ?_
  refine lv_iload_n C.1 C.2.1 dX3_tableLength_1 rfl (lv_at hl 2 rfl) ?_
  refine z_readS C (As := [zN (ca + k), zN ca]) (rest := []) (c_X3_switchHead l Z (ca := ca) (k := k) (by omega)) ⟨⟨zw_21_8, zw_20_22, zw_21_6⟩, zd_X3_switchHead⟩ zw_21_7 ⟨Nat.le_of_ble_eq_true rfl, Nat.le_of_ble_eq_true rfl⟩ ⟨rfl, rfl⟩ rfl hl.1 rfl (Nat.le_of_ble_eq_true rfl) dX3_tableLength_2 ⟨Nat.zero_le _, Nat.zero_le _⟩ hS (fun locs hS => ?_)
  have hsw : swF k ≤ k + 4 ∧ k + 1 ≤ swF k := by unfold swF; omega
  refine lv_istore_n (lv' := [(3, zN (ca + swF k)), (0, .ref (ad 1)), (1, zN (ca + k)), (2, zN ca)]) C.1 C.2.1 dX3_tableLength_5 rfl hl (by decide) rfl (fun ls hl => ?_)
  refine lv_aload_n C.1 C.2.1 dX3_tableLength_6 rfl (lv_at hl 1 rfl) ?_
  refine lv_iload_n C.1 C.2.1 dX3_tableLength_7 rfl (lv_at hl 0 rfl) ?_
  refine lv_bipush (v := zI 8) C.1 C.2.1 dX3_tableLength_8 (by decide) ?_
  refine y_iaddN C (a := ca + swF k) (b := 8) dX3_tableLength_10 ?_
  refine z_readV C (As := [zN ((ca + swF k) + 8)]) (rest := []) (c_X1_s4 l Z hM hB (((ca + swF k) + 8 : Nat) : Int) (by omega)) hM.byt rfl ⟨⟨zw_13_1, zw_2_15, zw_21_9⟩, zd_X1_s4⟩ zw_12_23 zw_13_0 ⟨Nat.le_of_ble_eq_true rfl, Nat.le_of_ble_eq_true rfl⟩ ⟨rfl, rfl⟩ rfl hl.1 rfl (Nat.le_of_ble_eq_true rfl) dX3_tableLength_11 ⟨Nat.zero_le _, Nat.zero_le _⟩ hS (fun locs hS => ?_)
  have hb11 := B4_rg hB.1 n (((ca + swF k) + 8 : Nat) : Int)
  refine y_i2l C (a := B4 F n (((ca + swF k) + 8 : Nat) : Int)) (by omega) dX3_tableLength_14 ?_
  refine lv_aload_n C.1 C.2.1 dX3_tableLength_15 rfl (lv_at hl 1 rfl) ?_
  refine lv_iload_n C.1 C.2.1 dX3_tableLength_16 rfl (lv_at hl 0 rfl) ?_
  refine lv_iconst (v := zI 4) C.1 C.2.1 dX3_tableLength_17 (by decide) ?_
  refine y_iaddN C (a := ca + swF k) (b := 4) dX3_tableLength_18 ?_
  refine z_readV C (As := [zN ((ca + swF k) + 4)]) (rest := [.long (zL (B4 F n (((ca + swF k) + 8 : Nat) : Int)))]) (c_X1_s4 l Z hM hB (((ca + swF k) + 4 : Nat) : Int) (by omega)) hM.byt rfl ⟨⟨zw_13_1, zw_2_15, zw_21_9⟩, zd_X1_s4⟩ zw_12_23 zw_13_0 ⟨Nat.le_of_ble_eq_true rfl, Nat.le_of_ble_eq_true rfl⟩ ⟨rfl, rfl⟩ rfl hl.1 rfl (Nat.le_of_ble_eq_true rfl) dX3_tableLength_19 ⟨Nat.zero_le _, Nat.zero_le _⟩ hS (fun locs hS => ?_)
  have hb19 := B4_rg hB.1 n (((ca + swF k) + 4 : Nat) : Int)
  refine y_i2l C (a := B4 F n (((ca + swF k) + 4 : Nat) : Int)) (by omega) dX3_tableLength_22 ?_
  refine y_lsub C (a := B4 F n (((ca + swF k) + 8 : Nat) : Int)) (b := B4 F n (((ca + swF k) + 4 : Nat) : Int)) dX3_tableLength_23 ?_
  refine lv_lstore (lv' := [(4, .long (zL ((B4 F n (((ca + swF k) + 8 : Nat) : Int)) - (B4 F n (((ca + swF k) + 4 : Nat) : Int))))), (3, zN (ca + swF k)), (0, .ref (ad 1)), (1, zN (ca + k)), (2, zN ca)]) C.1 C.2.1 dX3_tableLength_24 hl (by decide) rfl (fun ls hl => ?_)
  refine lv_lload C.1 C.2.1 dX3_tableLength_26 (lv_at hl 0 rfl) ?_
  refine lv_lconst (v := zL 0) C.1 C.2.1 dX3_tableLength_28 (by decide) ?_
  refine y_lif_lt (tgt := 42) C (a := (B4 F n (((ca + swF k) + 8 : Nat) : Int)) - (B4 F n (((ca + swF k) + 4 : Nat) : Int))) (b := 0) dX3_tableLength_29 dX3_tableLength_30 (by decide) (by omega) (fun h29 => ?_) (fun h29 => ?_)
  · refine lv_iconst (v := zI 0) C.1 C.2.1 dX3_tableLength_42 (by decide) ?_
    exact hret _ _ _ _ (zI 0) hS ⟨congrArg (fun x : Int => some (zV x)) (by unfold tlC; rw [if_pos (by omega)]), rfl⟩ rfl dX3_tableLength_43
  · refine lv_lload C.1 C.2.1 dX3_tableLength_33 (lv_at hl 0 rfl) ?_
    refine lv_ldc2 (v := zL 200) C.1 C.2.1 C.2.2.2.1 (C.2.2.2.2.1 _ zw_21_5) dX3_tableLength_35 ?_
    refine y_lif_le (tgt := 44) C (a := (B4 F n (((ca + swF k) + 8 : Nat) : Int)) - (B4 F n (((ca + swF k) + 4 : Nat) : Int))) (b := 200) dX3_tableLength_38 dX3_tableLength_39 (by decide) (by omega) (fun h38 => ?_) (fun h38 => ?_)
    · refine lv_iload_n C.1 C.2.1 dX3_tableLength_44 rfl (lv_at hl 1 rfl) ?_
      refine lv_bipush (v := zI 12) C.1 C.2.1 dX3_tableLength_45 (by decide) ?_
      refine y_iaddN C (a := ca + swF k) (b := 12) dX3_tableLength_47 ?_
      refine lv_iconst (v := zI 4) C.1 C.2.1 dX3_tableLength_48 (by decide) ?_
      refine lv_lload C.1 C.2.1 dX3_tableLength_49 (lv_at hl 0 rfl) ?_
      refine y_l2i C (a := (B4 F n (((ca + swF k) + 8 : Nat) : Int)) - (B4 F n (((ca + swF k) + 4 : Nat) : Int))) dX3_tableLength_51 ?_
      refine lv_iconst (v := zI 1) C.1 C.2.1 dX3_tableLength_52 (by decide) ?_
      refine y_iadd C (a := (B4 F n (((ca + swF k) + 8 : Nat) : Int)) - (B4 F n (((ca + swF k) + 4 : Nat) : Int))) (b := 1) dX3_tableLength_53 ?_
      refine y_imul C (a := 4) (b := ((B4 F n (((ca + swF k) + 8 : Nat) : Int)) - (B4 F n (((ca + swF k) + 4 : Nat) : Int))) + 1) dX3_tableLength_54 ?_
      refine y_iadd C (a := (((ca + swF k) + 12 : Nat) : Int)) (b := 4 * (((B4 F n (((ca + swF k) + 8 : Nat) : Int)) - (B4 F n (((ca + swF k) + 4 : Nat) : Int))) + 1)) dX3_tableLength_55 ?_
      refine lv_iload_n C.1 C.2.1 dX3_tableLength_56 rfl (lv_at hl 3 rfl) ?_
      refine y_isub C (a := (((ca + swF k) + 12 : Nat) : Int) + (4 * (((B4 F n (((ca + swF k) + 8 : Nat) : Int)) - (B4 F n (((ca + swF k) + 4 : Nat) : Int))) + 1))) (b := ((ca + k : Nat) : Int)) dX3_tableLength_57 ?_
      exact hret _ _ _ _ (zI (((((ca + swF k) + 12 : Nat) : Int) + (4 * (((B4 F n (((ca + swF k) + 8 : Nat) : Int)) - (B4 F n (((ca + swF k) + 4 : Nat) : Int))) + 1))) - ((ca + k : Nat) : Int))) hS ⟨congrArg (fun x : Int => some (zV x)) (by unfold tlC; rw [if_neg (by omega)]; omega), rfl⟩ rfl dX3_tableLength_58
    · refine lv_iconst (v := zI 0) C.1 C.2.1 dX3_tableLength_42 (by decide) ?_
      exact hret _ _ _ _ (zI 0) hS ⟨congrArg (fun x : Int => some (zV x)) (by unfold tlC; rw [if_pos (by omega)]), rfl⟩ rfl dX3_tableLength_43

set_option maxHeartbeats 4000000 in
set_option maxRecDepth 20000 in
theorem c_X3_lookupLength (l : Launch) (Z : zT) {H : Heap} {ad : Nat → Nat} {τ : mS} {X : List (Nat × va_E)} (hM : isC Z H ad τ X) {F : Nat → Nat} {n : Nat} (hB : cSrc τ F n) {ca k : Nat} (hk : ca + k < n) : zP l Z yX3_lookupLength cX3_lookupLength 7 (some .int) (rmk 3) [.ref (ad 1), zN (ca + k), zN ca] H (zV (llC F n ca k)) := by
  have hn := hB.2.2.2
  refine zM.introI (own := RX3) ⟨by decide, rfl⟩ (Nat.le_of_ble_eq_true rfl) ?_
  intro p e s m args below meth c Q ls hH C hl hret
  have hS : va_S (fun _ => False) s.heap H [] := by rw [hH]; exact va_S.rf
  have hl : lv_has ls 7 [(0, .ref (ad 1)), (1, zN (ca + k)), (2, zN ca)] := hl
  refine lv_iload_n C.1 C.2.1 dX3_lookupLength_0 rfl (lv_at hl 1 rfl) ?_
  refine lv_iload_n C.1 C.2.1 dX3_lookupLength_1 rfl (lv_at hl 2 rfl) ?_
  refine z_readS C (As := [zN (ca + k), zN ca]) (rest := []) (c_X3_switchHead l Z (ca := ca) (k := k) (by omega)) ⟨⟨zw_21_8, zw_20_22, zw_21_6⟩, zd_X3_switchHead⟩ zw_21_7 ⟨Nat.le_of_ble_eq_true rfl, Nat.le_of_ble_eq_true rfl⟩ ⟨rfl, rfl⟩ rfl hl.1 rfl (Nat.le_of_ble_eq_true rfl) dX3_lookupLength_2 ⟨Nat.zero_le _, Nat.zero_le _⟩ hS (fun locs hS => ?_)
  have hsw : swF k ≤ k + 4 ∧ k + 1 ≤ swF k := by unfold swF; omega
  refine lv_istore_n (lv' := [(3, zN (ca + swF k)), (0, .ref (ad 1)), (1, zN (ca + k)), (2, zN ca)]) C.1 C.2.1 dX3_lookupLength_5 rfl hl (by decide) rfl (fun ls hl => ?_)
  refine lv_aload_n C.1 C.2.1 dX3_lookupLength_6 rfl (lv_at hl 1 rfl) ?_
  refine lv_iload_n C.1 C.2.1 dX3_lookupLength_7 rfl (lv_at hl 0 rfl) ?_
  refine lv_iconst (v := zI 4) C.1 C.2.1 dX3_lookupLength_8 (by decide) ?_
  refine y_iaddN C (a := ca + swF k) (b := 4) dX3_lookupLength_9 ?_
  refine z_readV C (As := [zN ((ca + swF k) + 4)]) (rest := []) (c_X1_s4 l Z hM hB (((ca + swF k) + 4 : Nat) : Int) (by omega)) hM.byt rfl ⟨⟨zw_13_1, zw_2_15, zw_21_9⟩, zd_X1_s4⟩ zw_12_23 zw_13_0 ⟨Nat.le_of_ble_eq_true rfl, Nat.le_of_ble_eq_true rfl⟩ ⟨rfl, rfl⟩ rfl hl.1 rfl (Nat.le_of_ble_eq_true rfl) dX3_lookupLength_10 ⟨Nat.zero_le _, Nat.zero_le _⟩ hS (fun locs hS => ?_)
  have hb10 := B4_rg hB.1 n (((ca + swF k) + 4 : Nat) : Int)
  refine lv_istore (lv' := [(4, zV (B4 F n (((ca + swF k) + 4 : Nat) : Int))), (3, zN (ca + swF k)), (0, .ref (ad 1)), (1, zN (ca + k)), (2, zN ca)]) C.1 C.2.1 dX3_lookupLength_13 hl (by decide) rfl (fun ls hl => ?_)
  refine lv_iload C.1 C.2.1 dX3_lookupLength_15 (lv_at hl 0 rfl) ?_
  refine y_if_lt (tgt := 28) C (a := B4 F n (((ca + swF k) + 4 : Nat) : Int)) dX3_lookupLength_17 (by decide) (by omega) (fun h17 => ?_) (fun h17 => ?_)
  · refine lv_iconst (v := zI 0) C.1 C.2.1 dX3_lookupLength_28 (by decide) ?_
    exact hret _ _ _ _ (zI 0) hS ⟨congrArg (fun x : Int => some (zV x)) (by unfold llC; rw [if_pos (by omega)]), rfl⟩ rfl dX3_lookupLength_29
  · refine lv_iload C.1 C.2.1 dX3_lookupLength_20 (lv_at hl 0 rfl) ?_
    refine lv_sipush (v := zI 200) C.1 C.2.1 dX3_lookupLength_22 (by decide) ?_
    refine y_icmp_le (tgt := 30) C (a := B4 F n (((ca + swF k) + 4 : Nat) : Int)) (b := 200) dX3_lookupLength_25 (by decide) (by omega) (fun h25 => ?_) (fun h25 => ?_)
    · refine lv_iconst (v := zI 1) C.1 C.2.1 dX3_lookupLength_30 (by decide) ?_
      refine lv_istore (lv' := [(5, zN 1), (4, zV (B4 F n (((ca + swF k) + 4 : Nat) : Int))), (3, zN (ca + swF k)), (0, .ref (ad 1)), (1, zN (ca + k)), (2, zN ca)]) C.1 C.2.1 dX3_lookupLength_31 hl (by decide) rfl (fun ls hl => ?_)
      have loop : ∀ (fu : Nat) (i : Nat) (ls : Array Slot) (locs : List Loc), va_S (fun _ => False) s.heap H locs → (1 ≤ i ∧ ((i : Int) ≤ B4 F n ((ca + swF k + 4 : Nat) : Int) ∨ i = 1) ∧ B4 F n ((ca + swF k + 4 : Nat) : Int) + 2 ≤ i + (fu : Int)) → (lkOk F n ca (swF k) ((B4 F n ((ca + swF k + 4 : Nat) : Int)).toNat - i) i = lkOk F n ca (swF k) ((B4 F n ((ca + swF k + 4 : Nat) : Int)).toNat - 1) 1) → lv_has ls 7 [(5, zN i), (4, zV (B4 F n ((ca + swF k + 4 : Nat) : Int))), (3, zN (ca + swF k)), (0, .ref (ad 1)), (1, zN (ca + k)), (2, zN ca)] → W p l e (rmk 3) s m args below meth c H locs 0 0 Q (F0 m 33 ls []) := by
        intro fu
        induction fu with
        | zero =>
          intro i ls locs hS hi he hl
          (exact absurd hi.2.2 (by omega))
        | succ fu ih_loop =>
          intro i ls locs hS hi he hl
          refine lv_iload C.1 C.2.1 dX3_lookupLength_33 (lv_at hl 0 rfl) ?_
          refine lv_iload C.1 C.2.1 dX3_lookupLength_35 (lv_at hl 1 rfl) ?_
          refine y_icmp_ge (tgt := 78) C (a := ((i : Nat) : Int)) (b := B4 F n ((ca + swF k + 4 : Nat) : Int)) dX3_lookupLength_37 (by decide) (by omega) (fun h37 => ?_) (fun h37 => ?_)
          · refine lv_iload_n C.1 C.2.1 dX3_lookupLength_78 rfl (lv_at hl 2 rfl) ?_
            refine lv_bipush (v := zI 8) C.1 C.2.1 dX3_lookupLength_79 (by decide) ?_
            refine y_iaddN C (a := ca + swF k) (b := 8) dX3_lookupLength_81 ?_
            refine lv_bipush (v := zI 8) C.1 C.2.1 dX3_lookupLength_82 (by decide) ?_
            refine lv_iload C.1 C.2.1 dX3_lookupLength_84 (lv_at hl 1 rfl) ?_
            refine y_imul C (a := 8) (b := B4 F n ((ca + swF k + 4 : Nat) : Int)) dX3_lookupLength_86 ?_
            refine y_iadd C (a := (((ca + swF k) + 8 : Nat) : Int)) (b := 8 * (B4 F n ((ca + swF k + 4 : Nat) : Int))) dX3_lookupLength_87 ?_
            refine lv_iload_n C.1 C.2.1 dX3_lookupLength_88 rfl (lv_at hl 4 rfl) ?_
            refine y_isub C (a := (((ca + swF k) + 8 : Nat) : Int) + (8 * (B4 F n ((ca + swF k + 4 : Nat) : Int)))) (b := ((ca + k : Nat) : Int)) dX3_lookupLength_89 ?_
            exact hret _ _ _ _ (zI (((((ca + swF k) + 8 : Nat) : Int) + (8 * (B4 F n ((ca + swF k + 4 : Nat) : Int)))) - ((ca + k : Nat) : Int))) hS ⟨congrArg (fun x : Int => some (zV x)) (by unfold llC; rw [if_neg (by omega), if_pos (by rw [← he, show (B4 F n ((ca + swF k + 4 : Nat) : Int)).toNat - i = 0 by omega]; rfl)]; omega), rfl⟩ rfl dX3_lookupLength_90
          · refine lv_iload_n C.1 C.2.1 dX3_lookupLength_40 rfl (lv_at hl 2 rfl) ?_
            refine lv_bipush (v := zI 8) C.1 C.2.1 dX3_lookupLength_41 (by decide) ?_
            refine y_iaddN C (a := ca + swF k) (b := 8) dX3_lookupLength_43 ?_
            refine lv_bipush (v := zI 8) C.1 C.2.1 dX3_lookupLength_44 (by decide) ?_
            refine lv_iload C.1 C.2.1 dX3_lookupLength_46 (lv_at hl 0 rfl) ?_
            refine y_imulN C (a := 8) (b := i) dX3_lookupLength_48 ?_
            refine y_iaddN C (a := (ca + swF k) + 8) (b := 8 * i) dX3_lookupLength_49 ?_
            refine z_re (y := zI ((ca + swF k + 8 + 8 * i : Nat) : Int)) (zI_c (by omega)) ?_
            refine lv_istore (lv' := [(6, zN (ca + swF k + 8 + 8 * i)), (5, zN i), (4, zV (B4 F n ((ca + swF k + 4 : Nat) : Int))), (3, zN (ca + swF k)), (0, .ref (ad 1)), (1, zN (ca + k)), (2, zN ca)]) C.1 C.2.1 dX3_lookupLength_50 hl (by decide) rfl (fun ls hl => ?_)
            refine lv_aload_n C.1 C.2.1 dX3_lookupLength_52 rfl (lv_at hl 4 rfl) ?_
            refine lv_iload C.1 C.2.1 dX3_lookupLength_53 (lv_at hl 0 rfl) ?_
            refine lv_bipush (v := zI 8) C.1 C.2.1 dX3_lookupLength_55 (by decide) ?_
            refine y_isub C (a := ((ca + swF k + 8 + 8 * i : Nat) : Int)) (b := 8) dX3_lookupLength_57 ?_
            refine z_re (y := zI ((ca + swF k + 8 * i : Nat) : Int)) (zI_c (by omega)) ?_
            refine z_readV C (As := [zN (ca + swF k + 8 * i)]) (rest := []) (c_X1_s4 l Z hM hB ((ca + swF k + 8 * i : Nat) : Int) (by omega)) hM.byt rfl ⟨⟨zw_13_1, zw_2_15, zw_21_9⟩, zd_X1_s4⟩ zw_12_23 zw_13_0 ⟨Nat.le_of_ble_eq_true rfl, Nat.le_of_ble_eq_true rfl⟩ ⟨rfl, rfl⟩ rfl hl.1 rfl (Nat.le_of_ble_eq_true rfl) dX3_lookupLength_58 ⟨Nat.zero_le _, Nat.zero_le _⟩ hS (fun locs hS => ?_)
            have hb58 := B4_rg hB.1 n ((ca + swF k + 8 * i : Nat) : Int)
            refine lv_aload_n C.1 C.2.1 dX3_lookupLength_61 rfl (lv_at hl 4 rfl) ?_
            refine lv_iload C.1 C.2.1 dX3_lookupLength_62 (lv_at hl 0 rfl) ?_
            refine z_readV C (As := [zN (ca + swF k + 8 + 8 * i)]) (rest := [zV (B4 F n ((ca + swF k + 8 * i : Nat) : Int))]) (c_X1_s4 l Z hM hB ((ca + swF k + 8 + 8 * i : Nat) : Int) (by omega)) hM.byt rfl ⟨⟨zw_13_1, zw_2_15, zw_21_9⟩, zd_X1_s4⟩ zw_12_23 zw_13_0 ⟨Nat.le_of_ble_eq_true rfl, Nat.le_of_ble_eq_true rfl⟩ ⟨rfl, rfl⟩ rfl hl.1 rfl (Nat.le_of_ble_eq_true rfl) dX3_lookupLength_64 ⟨Nat.zero_le _, Nat.zero_le _⟩ hS (fun locs hS => ?_)
            have hb64 := B4_rg hB.1 n ((ca + swF k + 8 + 8 * i : Nat) : Int)
            refine y_icmp_lt (tgt := 72) C (a := B4 F n ((ca + swF k + 8 * i : Nat) : Int)) (b := B4 F n ((ca + swF k + 8 + 8 * i : Nat) : Int)) dX3_lookupLength_67 (by decide) (by omega) (fun h67 => ?_) (fun h67 => ?_)
            · refine lv_iinc (v := zI ((i + 1 : Nat) : Int)) (lv' := [(5, zN (i + 1)), (6, zN (ca + swF k + 8 + 8 * i)), (4, zV (B4 F n ((ca + swF k + 4 : Nat) : Int))), (3, zN (ca + swF k)), (0, .ref (ad 1)), (1, zN (ca + k)), (2, zN ca)]) C.1 C.2.1 dX3_lookupLength_72 hl (k := 1) rfl (zI_add _ _) (by decide) rfl (fun ls hl => ?_)
              refine lv_goto (tgt := 33) C.1 C.2.1 dX3_lookupLength_75 (by decide) ?_
              exact ih_loop (i + 1) ls _ hS (by omega) (by rw [← he, show (B4 F n ((ca + swF k + 4 : Nat) : Int)).toNat - i = ((B4 F n ((ca + swF k + 4 : Nat) : Int)).toNat - (i + 1)) + 1 by omega]; conv => rhs; unfold lkOk; rw [if_neg (by omega)]) (lv_sub hl [0, 2, 3, 4, 5, 6] rfl)
            · refine lv_iconst (v := zI 0) C.1 C.2.1 dX3_lookupLength_70 (by decide) ?_
              exact hret _ _ _ _ (zI 0) hS ⟨congrArg (fun x : Int => some (zV x)) (by unfold llC; rw [if_neg (by omega), if_neg (by rw [← he, show (B4 F n ((ca + swF k + 4 : Nat) : Int)).toNat - i = ((B4 F n ((ca + swF k + 4 : Nat) : Int)).toNat - (i + 1)) + 1 by omega]; unfold lkOk; rw [if_pos (by omega)]; decide)]), rfl⟩ rfl dX3_lookupLength_71
      exact loop ((B4 F n ((ca + swF k + 4 : Nat) : Int)).toNat + 1) 1 ls _ hS (by omega) rfl hl
    · refine lv_iconst (v := zI 0) C.1 C.2.1 dX3_lookupLength_28 (by decide) ?_
      exact hret _ _ _ _ (zI 0) hS ⟨congrArg (fun x : Int => some (zV x)) (by unfold llC; rw [if_pos (by omega)]), rfl⟩ rfl dX3_lookupLength_29

set_option maxHeartbeats 4000000 in
set_option maxRecDepth 20000 in
theorem c_X3_lengthAt (l : Launch) (Z : zT) {H : Heap} {ad : Nat → Nat} {τ : mS} {X : List (Nat × va_E)} (hM : isC Z H ad τ X) {F : Nat → Nat} {n : Nat} (hB : cSrc τ F n) {ca k : Nat} (hk : ca + k < n) : zP l Z yX3_lengthAt cX3_lengthAt 4 (some .int) (rmk 4) [.ref (ad 1), zN (ca + k), zN ca] H (zV (lnC F n ca k)) := by
  have hn := hB.2.2.2
  refine zM.introI (own := RX3) ⟨by decide, rfl⟩ (Nat.le_of_ble_eq_true rfl) ?_
  intro p e s m args below meth c Q ls hH C hl hret
  have hS : va_S (fun _ => False) s.heap H [] := by rw [hH]; exact va_S.rf
  have hl : lv_has ls 4 [(0, .ref (ad 1)), (1, zN (ca + k)), (2, zN ca)] := hl
  obtain ⟨tl, hZl, hTl⟩ := C.2.2.2.2.2.2.2.2.2.2.2.2.2
  refine lv_aload_n C.1 C.2.1 dX3_lengthAt_0 rfl (lv_at hl 0 rfl) ?_
  refine lv_iload_n C.1 C.2.1 dX3_lengthAt_1 rfl (lv_at hl 1 rfl) ?_
  refine z_readV C (As := [zN (ca + k)]) (rest := []) (c_u1 l Z hM hB (ca + k) rfl (by omega)) hM.byt rfl ⟨⟨zw_9_12, zw_2_15, zw_21_1⟩, zd_X1_u1⟩ zw_9_10 zw_9_11 ⟨Nat.le_of_ble_eq_true rfl, Nat.le_of_ble_eq_true rfl⟩ ⟨rfl, rfl⟩ rfl hl.1 rfl (Nat.le_of_ble_eq_true rfl) dX3_lengthAt_2 ⟨Nat.zero_le _, Nat.zero_le _⟩ hS (fun locs hS => ?_)
  have := hB.1 (ca + k)
  refine lv_istore_n (lv' := [(3, zN (F (ca + k))), (0, .ref (ad 1)), (1, zN (ca + k)), (2, zN ca)]) C.1 C.2.1 dX3_lengthAt_5 rfl hl (by decide) rfl (fun ls hl => ?_)
  refine lv_iload_n C.1 C.2.1 dX3_lengthAt_6 rfl (lv_at hl 0 rfl) ?_
  rcases (show ((F (ca + k) : Nat) : Int) = 170 ∨ ((F (ca + k) : Nat) : Int) = 171 ∨ ((F (ca + k) : Nat) : Int) = 188 ∨ ((F (ca + k) : Nat) : Int) = 196 ∨ (((F (ca + k) : Nat) : Int) ≠ 170 ∧ ((F (ca + k) : Nat) : Int) ≠ 171 ∧ ((F (ca + k) : Nat) : Int) ≠ 188 ∧ ((F (ca + k) : Nat) : Int) ≠ 196) by omega) with h7 | h7 | h7 | h7 | h7
  · refine y_lookIn C 170 h7 dX3_lengthAt_7 (by decide) (by decide) (off := 41) (by decide) (tgt := 48) (by decide) ?_
    refine lv_aload_n C.1 C.2.1 dX3_lengthAt_48 rfl (lv_at hl 1 rfl) ?_
    refine lv_iload_n C.1 C.2.1 dX3_lengthAt_49 rfl (lv_at hl 2 rfl) ?_
    refine lv_iload_n C.1 C.2.1 dX3_lengthAt_50 rfl (lv_at hl 3 rfl) ?_
    refine z_readS C (As := [.ref (ad 1), zN (ca + k), zN ca]) (rest := []) (c_X3_tableLength l Z hM hB hk) ⟨⟨zw_21_4, zw_20_22, zw_21_2⟩, zd_X3_tableLength⟩ zw_21_3 ⟨Nat.le_of_ble_eq_true rfl, Nat.le_of_ble_eq_true rfl⟩ ⟨rfl, rfl⟩ rfl hl.1 rfl (Nat.le_of_ble_eq_true rfl) dX3_lengthAt_51 ⟨Nat.zero_le _, Nat.zero_le _⟩ hS (fun locs hS => ?_)
    exact hret _ _ _ _ (zI (tlC F n ca k)) hS ⟨congrArg (fun x : Int => some (zV x)) (by unfold lnC; rw [if_pos (by omega)]), rfl⟩ rfl dX3_lengthAt_54
  · refine y_lookIn C 171 h7 dX3_lengthAt_7 (by decide) (by decide) (off := 48) (by decide) (tgt := 55) (by decide) ?_
    refine lv_aload_n C.1 C.2.1 dX3_lengthAt_55 rfl (lv_at hl 1 rfl) ?_
    refine lv_iload_n C.1 C.2.1 dX3_lengthAt_56 rfl (lv_at hl 2 rfl) ?_
    refine lv_iload_n C.1 C.2.1 dX3_lengthAt_57 rfl (lv_at hl 3 rfl) ?_
    refine z_readS C (As := [.ref (ad 1), zN (ca + k), zN ca]) (rest := []) (c_X3_lookupLength l Z hM hB hk) ⟨⟨zw_21_12, zw_20_22, zw_21_10⟩, zd_X3_lookupLength⟩ zw_21_11 ⟨Nat.le_of_ble_eq_true rfl, Nat.le_of_ble_eq_true rfl⟩ ⟨rfl, rfl⟩ rfl hl.1 rfl (Nat.le_of_ble_eq_true rfl) dX3_lengthAt_58 ⟨Nat.zero_le _, Nat.zero_le _⟩ hS (fun locs hS => ?_)
    exact hret _ _ _ _ (zI (llC F n ca k)) hS ⟨congrArg (fun x : Int => some (zV x)) (by unfold lnC; rw [if_neg (by omega), if_pos (by omega)]), rfl⟩ rfl dX3_lengthAt_61
  · refine y_lookIn C 188 h7 dX3_lengthAt_7 (by decide) (by decide) (off := 66) (by decide) (tgt := 73) (by decide) ?_
    refine lv_aload_n C.1 C.2.1 dX3_lengthAt_73 rfl (lv_at hl 1 rfl) ?_
    refine lv_iload_n C.1 C.2.1 dX3_lengthAt_74 rfl (lv_at hl 2 rfl) ?_
    refine lv_iconst (v := zI 1) C.1 C.2.1 dX3_lengthAt_75 (by decide) ?_
    refine y_iaddN C (a := ca + k) (b := 1) dX3_lengthAt_76 ?_
    refine z_readV C (As := [zN ((ca + k) + 1)]) (rest := []) (c_X1_u1 l Z hM hB (((ca + k) + 1 : Nat) : Int) (by omega)) hM.byt rfl ⟨⟨zw_9_12, zw_2_15, zw_21_1⟩, zd_X1_u1⟩ zw_9_10 zw_9_11 ⟨Nat.le_of_ble_eq_true rfl, Nat.le_of_ble_eq_true rfl⟩ ⟨rfl, rfl⟩ rfl hl.1 rfl (Nat.le_of_ble_eq_true rfl) dX3_lengthAt_77 ⟨Nat.zero_le _, Nat.zero_le _⟩ hS (fun locs hS => ?_)
    have hb77 := B1_lt hB.1 n (((ca + k) + 1 : Nat) : Int)
    refine lv_bipush (v := zI 10) C.1 C.2.1 dX3_lengthAt_80 (by decide) ?_
    refine y_icmp_ne (tgt := 89) C (a := ((B1 F n (((ca + k) + 1 : Nat) : Int) : Nat) : Int)) (b := 10) dX3_lengthAt_82 (by decide) (by omega) (fun h82 => ?_) (fun h82 => ?_)
    · refine lv_iconst (v := zI 0) C.1 C.2.1 dX3_lengthAt_89 (by decide) ?_
      exact hret _ _ _ _ (zI 0) hS ⟨congrArg (fun x : Int => some (zV x)) (by unfold lnC; rw [if_neg (by omega), if_neg (by omega), if_neg (by omega), if_pos (by omega), if_neg (by omega)]), rfl⟩ rfl dX3_lengthAt_90
    · refine lv_iconst (v := zI 2) C.1 C.2.1 dX3_lengthAt_85 (by decide) ?_
      refine lv_goto (tgt := 90) C.1 C.2.1 dX3_lengthAt_86 (by decide) ?_
      exact hret _ _ _ _ (zI 2) hS ⟨congrArg (fun x : Int => some (zV x)) (by unfold lnC; rw [if_neg (by omega), if_neg (by omega), if_neg (by omega), if_pos (by omega), if_pos (by omega)]), rfl⟩ rfl dX3_lengthAt_90
  · refine y_lookIn C 196 h7 dX3_lengthAt_7 (by decide) (by decide) (off := 55) (by decide) (tgt := 62) (by decide) ?_
    refine lv_aload_n C.1 C.2.1 dX3_lengthAt_62 rfl (lv_at hl 1 rfl) ?_
    refine lv_iload_n C.1 C.2.1 dX3_lengthAt_63 rfl (lv_at hl 2 rfl) ?_
    refine lv_iconst (v := zI 1) C.1 C.2.1 dX3_lengthAt_64 (by decide) ?_
    refine y_iaddN C (a := ca + k) (b := 1) dX3_lengthAt_65 ?_
    refine z_readV C (As := [zN ((ca + k) + 1)]) (rest := []) (c_X1_u1 l Z hM hB (((ca + k) + 1 : Nat) : Int) (by omega)) hM.byt rfl ⟨⟨zw_9_12, zw_2_15, zw_21_1⟩, zd_X1_u1⟩ zw_9_10 zw_9_11 ⟨Nat.le_of_ble_eq_true rfl, Nat.le_of_ble_eq_true rfl⟩ ⟨rfl, rfl⟩ rfl hl.1 rfl (Nat.le_of_ble_eq_true rfl) dX3_lengthAt_66 ⟨Nat.zero_le _, Nat.zero_le _⟩ hS (fun locs hS => ?_)
    have hb66 := B1_lt hB.1 n (((ca + k) + 1 : Nat) : Int)
    refine z_readS C (As := [zN (B1 F n (((ca + k) + 1 : Nat) : Int))]) (rest := []) (c_X3_wideLength l Z (B1 F n (((ca + k) + 1 : Nat) : Int)) (by omega)) ⟨⟨zw_21_15, zw_20_22, zw_21_13⟩, zd_X3_wideLength⟩ zw_21_14 ⟨Nat.le_of_ble_eq_true rfl, Nat.le_of_ble_eq_true rfl⟩ ⟨rfl, rfl⟩ rfl hl.1 rfl (Nat.le_of_ble_eq_true rfl) dX3_lengthAt_69 ⟨Nat.zero_le _, Nat.zero_le _⟩ hS (fun locs hS => ?_)
    exact hret _ _ _ _ (zI (wdN (B1 F n (((ca + k) + 1 : Nat) : Int)))) hS ⟨congrArg (fun x : Int => some (zV x)) (by unfold lnC; rw [if_neg (by omega), if_neg (by omega), if_pos (by omega)]), rfl⟩ rfl dX3_lengthAt_72
  · refine y_lookOut C (by omega) dX3_lengthAt_7 (by decide) (fun q hq => by simp at hq; rcases hq with rfl | rfl | rfl | rfl <;> (dsimp only; omega)) (tgt := 91) (by decide) ?_
    refine lv_iload_n C.1 C.2.1 dX3_lengthAt_91 rfl (lv_at hl 0 rfl) ?_
    refine va_gets C.1 C.2.1 hZl hS C.2.2.2.1 (C.2.2.2.2.1 _ zw_21_0) (fun _ h => h) dX3_lengthAt_92 ?_
    refine va_tlen C.1 C.2.1 hTl hS (v := zI 201) rfl dX3_lengthAt_95 ?_
    refine y_icmp_ge (tgt := 107) C (a := ((F (ca + k) : Nat) : Int)) (b := 201) dX3_lengthAt_96 (by decide) (by omega) (fun h96 => ?_) (fun h96 => ?_)
    · refine lv_iconst (v := zI 0) C.1 C.2.1 dX3_lengthAt_107 (by decide) ?_
      exact hret _ _ _ _ (zI 0) hS ⟨congrArg (fun x : Int => some (zV x)) (by unfold lnC; rw [if_neg (by omega), if_neg (by omega), if_neg (by omega), if_neg (by omega), if_neg (by omega)]), rfl⟩ rfl dX3_lengthAt_108
    · refine va_gets C.1 C.2.1 hZl hS C.2.2.2.1 (C.2.2.2.2.1 _ zw_21_0) (fun _ h => h) dX3_lengthAt_99 ?_
      refine lv_iload_n C.1 C.2.1 dX3_lengthAt_102 rfl (lv_at hl 0 rfl) ?_
      refine z_re (y := nI (F (ca + k))) (zI_nat _) ?_
      refine va_ti C.1 C.2.1 hTl hS (v := zN (lens (F (ca + k)))) (vp_in_nI (by omega) (by decide)) (by rw [nI_clamp (by omega)]) dX3_lengthAt_103 ?_
      have hq103 := lens_lt (F (ca + k))
      refine lv_goto (tgt := 108) C.1 C.2.1 dX3_lengthAt_104 (by decide) ?_
      exact hret _ _ _ _ (zI ((lens (F (ca + k)) : Nat) : Int)) hS ⟨congrArg (fun x : Int => some (zV x)) (by unfold lnC; rw [if_neg (by omega), if_neg (by omega), if_neg (by omega), if_neg (by omega), if_pos (by omega)]), rfl⟩ rfl dX3_lengthAt_108
