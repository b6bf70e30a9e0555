/-! the component: its small methods -/
theorem sb24 {v : Nat} (h : v < 256) : zI (sb v) <<< (zI 24 &&& 31) = zI ((2 ^ 24 * v : Nat) : Int) := by
  have : ∀ v, v < 256 → zI (sb v) <<< (zI 24 &&& 31) = zI ((2 ^ 24 * v : Nat) : Int) := by decide +kernel
  exact this v h
theorem or4 {F : Nat → Nat} (hF : isF F) (k : Nat) : zI ((2 ^ 24 * F k : Nat) : Int) ||| zI ((2 ^ 16 * F (k + 1) : Nat) : Int) ||| zI ((2 ^ 8 * F (k + 2) : Nat) : Int) ||| zI (F (k + 3) : Int) = zI (S4 F k) := by
  have h0 := hF k
  have h1 := hF (k + 1)
  have h2 := hF (k + 2)
  have h3 := hF (k + 3)
  rw [zI_or 24 (by omega), show 2 ^ 24 * F k + 2 ^ 16 * F (k + 1) = 2 ^ 16 * (2 ^ 8 * F k + F (k + 1)) by omega, zI_or 16 (by omega), show 2 ^ 16 * (2 ^ 8 * F k + F (k + 1)) + 2 ^ 8 * F (k + 2) = 2 ^ 8 * (2 ^ 16 * F k + 2 ^ 8 * F (k + 1) + F (k + 2)) by omega, zI_or 8 (by omega), ← zI_U4]
  congr 1
  unfold U4 U2
  rw [show k + 2 + 1 = k + 3 from rfl]
  omega
theorem zI_half (a : Nat) (h : a < 2147483648) : zI (a : Int) >>> (zI 1 &&& 31) = zI ((a / 2 : Nat) : Int) := by
  apply Int32.toInt_inj.mp
  rw [zI_toInt (by omega), show (zI 1 &&& 31 : Int32) = 1 from by decide]
  show ((zI (a : Int)).toBitVec.sshiftRight ((1 : Int32).toBitVec.smod 32).toNat).toInt = _
  rw [BitVec.toInt_sshiftRight, show ((1 : Int32).toBitVec.smod 32).toNat = 1 from by decide]
  show (zI (a : Int)).toInt >>> 1 = _
  rw [zI_toInt (by omega), Int.shiftRight_eq_div_pow]
  omega
/-- the latest number of a row that is p -/
def nbG (g : Nat → Int) : Nat → Int → Int
  | 0, _ => -1
  | i + 1, p => if p = g i then (i : Int) else nbG g i p
theorem nbG_no {g : Nat → Int} {p : Int} : ∀ N, (∀ j, j < N → g j ≠ p) → nbG g N p = -1 := by
  intro N
  induction N with
  | zero => intro _; rfl
  | succ N ih =>
    intro h
    unfold nbG
    rw [if_neg (fun z => h N (by omega) z.symm)]
    exact ih (fun j hj => h j (by omega))
theorem nbG_at {g : Nat → Int} {N i : Nat} (hi : i < N) (h : ∀ j k, j < k → k < N → g j < g k) : nbG g N (g i) = (i : Int) := by
  induction N with
  | zero => omega
  | succ N ih =>
    unfold nbG
    by_cases e : i = N
    · subst e; rw [if_pos rfl]
    · rw [if_neg (by have := h i N (by omega) (by omega); omega)]
      exact ih (by omega) (fun j k h1 h2 => h j k h1 (by omega))

set_option maxHeartbeats 4000000 in
set_option maxRecDepth 20000 in
theorem c_X11_at (l : Launch) (Z : zT) {H : Heap} {a L : Nat} {f : Nat → Int32} (hP : zAt Z H a (.inl (Z.2.1 1, (L, .inl f)))) (hL : L < 2147483648) (t : Int) (ht : -2147483648 ≤ t ∧ t < 2147483648) : zP l Z yX11_at cX11_at 2 (some .int) (rmk 1) [.ref a, zV t] H (.int (rAt f L t)) := by
  refine zM.introI (own := RX11) ⟨by decide, rfl⟩ (Nat.le_of_ble_eq_true rfl) ?_
  intro p e s m args below meth c Q ls hH C hl hret
  have hS : va_S (fun _ => False) s.heap H [] := by rw [hH]; exact va_S.rf
  have hl : lv_has ls 2 [(0, .ref a), (1, zV t)] := hl
  refine lv_iload_n C.1 C.2.1 dX11_at_0 rfl (lv_at hl 1 rfl) ?_
  refine y_if_lt (tgt := 16) C (a := t) dX11_at_1 (by decide) (by omega) (fun h1 => ?_) (fun h1 => ?_)
  · refine lv_iconst (v := zI (-1)) C.1 C.2.1 dX11_at_16 (by decide) ?_
    exact hret _ _ _ _ (zI (-1)) hS ⟨congrArg (fun x : Int32 => some (Value.int x)) (by unfold rAt; rw [if_neg (by omega)]), rfl⟩ rfl dX11_at_17
  · refine lv_iload_n C.1 C.2.1 dX11_at_4 rfl (lv_at hl 1 rfl) ?_
    refine lv_aload_n C.1 C.2.1 dX11_at_5 rfl (lv_at hl 0 rfl) ?_
    refine z_alen C hP (ti := 1) rfl dX11_at_6 ?_
    refine z_re (y := zI (L : Int)) (zI_nat L).symm ?_
    refine y_icmp_ge (tgt := 16) C (a := t) (b := ((L : Nat) : Int)) dX11_at_7 (by decide) (by omega) (fun h7 => ?_) (fun h7 => ?_)
    · refine lv_iconst (v := zI (-1)) C.1 C.2.1 dX11_at_16 (by decide) ?_
      exact hret _ _ _ _ (zI (-1)) hS ⟨congrArg (fun x : Int32 => some (Value.int x)) (by unfold rAt; rw [if_neg (by omega)]), rfl⟩ rfl dX11_at_17
    · refine lv_aload_n C.1 C.2.1 dX11_at_10 rfl (lv_at hl 0 rfl) ?_
      refine lv_iload_n C.1 C.2.1 dX11_at_11 rfl (lv_at hl 1 rfl) ?_
      refine z_iald C hP t.toNat (by rw [← zI_nat]; exact zI_c (by omega)) (by omega) (by omega) dX11_at_12 ?_
      refine lv_goto (tgt := 17) C.1 C.2.1 dX11_at_13 (by decide) ?_
      exact hret _ _ _ _ (f t.toNat) hS ⟨congrArg (fun x : Int32 => some (Value.int x)) (by unfold rAt; rw [if_pos (by omega)]), rfl⟩ rfl dX11_at_17

theorem c_X11_put (l : Launch) (Z : zT) {H : Heap} {a L : Nat} {f : Nat → Int32} (hP : zAt Z H a (.inl (Z.2.1 1, (L, .inl f)))) (hL : L < 2147483648) (t : Int) (ht : -2147483648 ≤ t ∧ t < 2147483648) (x : Int32) : zM l Z yX11_put cX11_put 3 none (rmk 1) [.ref a, zV t, .int x] H (fun q => q = a) 0 0 (fun v H' => v = none ∧ zUp H H' a ∧ ((0 ≤ t ∧ t < (L : Int)) → zAt Z H' a (.inl (Z.2.1 1, (L, .inl (upd f t.toNat x))))) ∧ (¬ (0 ≤ t ∧ t < (L : Int)) → zAt Z H' a (.inl (Z.2.1 1, (L, .inl f))))) := by
  refine zM.introV (own := RX11) ⟨by decide, rfl⟩ (Nat.le_of_ble_eq_true rfl) ?_
  intro p e s m args below meth c Q ls hH C hnm hl hret
  have hS : va_S (fun q => q = a) s.heap H [] := by rw [hH]; exact va_S.rf
  have hl : lv_has ls 3 [(0, .ref a), (1, zV t), (2, .int x)] := hl
  refine lv_iload_n C.1 C.2.1 dX11_put_0 rfl (lv_at hl 1 rfl) ?_
  refine y_if_lt (tgt := 14) C (a := t) dX11_put_1 (by decide) (by omega) (fun h1 => ?_) (fun h1 => ?_)
  · exact hret _ _ _ _ hS ⟨rfl, ⟨rfl, fun _ _ => rfl⟩, fun z => absurd z (by omega), fun _ => hP⟩ dX11_put_14
  · refine lv_iload_n C.1 C.2.1 dX11_put_4 rfl (lv_at hl 1 rfl) ?_
    refine lv_aload_n C.1 C.2.1 dX11_put_5 rfl (lv_at hl 0 rfl) ?_
    refine z_alen C hP (ti := 1) rfl dX11_put_6 ?_
    refine z_re (y := zI (L : Int)) (zI_nat L).symm ?_
    refine y_icmp_ge (tgt := 14) C (a := t) (b := ((L : Nat) : Int)) dX11_put_7 (by decide) (by omega) (fun h7 => ?_) (fun h7 => ?_)
    · exact hret _ _ _ _ hS ⟨rfl, ⟨rfl, fun _ _ => rfl⟩, fun z => absurd z (by omega), fun _ => hP⟩ dX11_put_14
    · refine lv_aload_n C.1 C.2.1 dX11_put_10 rfl (lv_at hl 0 rfl) ?_
      refine lv_iload_n C.1 C.2.1 dX11_put_11 rfl (lv_at hl 1 rfl) ?_
      refine lv_iload_n C.1 C.2.1 dX11_put_12 rfl (lv_at hl 2 rfl) ?_
      refine z_iast C (x := x) hP t.toNat (by rw [← zI_nat]; exact zI_c (by omega)) (by omega) (by omega) hS (rfl : a = a) dX11_put_13 (fun H locs hu hn hS => ?_)
      exact hret _ _ _ _ hS ⟨rfl, hu, fun _ => hn, fun z => absurd (And.intro (by omega) (by omega)) z⟩ dX11_put_14

set_option maxHeartbeats 4000000 in
set_option maxRecDepth 20000 in
theorem c_X1_u1 (l : Launch) (Z : zT) {H : Heap} {ad : Nat → Nat} {τ : mS} {X : List (Nat × va_E)} (hM : isC Z H ad τ X) {F : Nat → Nat} {n : Nat} (hB : cSrc τ F n) (t : Int) (ht : -2147483648 ≤ t ∧ t < 2147483648) : zP l Z yX1_u1 cX1_u1 2 (some .int) (rmk 1) [.ref (ad 1), zV t] H (zN (B1 F n t)) := by
  have hn := hB.2.2.2
  refine zM.introI (own := RX1) ⟨by decide, rfl⟩ (Nat.le_of_ble_eq_true rfl) ?_
  intro p e s m args below meth c Q ls hH C hl hret
  have hS : va_S (fun _ => False) s.heap H [] := by rw [hH]; exact va_S.rf
  have hl : lv_has ls 2 [(0, .ref (ad 1)), (1, zV t)] := hl
  refine lv_iload_n C.1 C.2.1 dX1_u1_0 rfl (lv_at hl 1 rfl) ?_
  refine y_if_lt (tgt := 34) C (a := t) dX1_u1_1 (by decide) (by omega) (fun h1 => ?_) (fun h1 => ?_)
  · refine lv_iconst (v := zI 0) C.1 C.2.1 dX1_u1_34 (by decide) ?_
    exact hret _ _ _ _ (zI 0) hS ⟨congrArg (fun x : Int => some (zV x)) (by unfold B1; rw [if_neg (by omega)]; rfl), rfl⟩ rfl dX1_u1_35
  · refine lv_iload_n C.1 C.2.1 dX1_u1_4 rfl (lv_at hl 1 rfl) ?_
    refine lv_aload_n C.1 C.2.1 dX1_u1_5 rfl (lv_at hl 0 rfl) ?_
    refine z_get C (v := .int (τ.1 0)) hM.byt rfl bi_wsX10 1 (by decide) zw_3_20 rfl rfl dX1_u1_6 ?_
    refine z_re (y := zI ((n : Nat) : Int)) hB.2.2.1 ?_
    refine y_icmp_ge (tgt := 34) C (a := t) (b := ((n : Nat) : Int)) dX1_u1_9 (by decide) (by omega) (fun h9 => ?_) (fun h9 => ?_)
    · refine lv_iconst (v := zI 0) C.1 C.2.1 dX1_u1_34 (by decide) ?_
      exact hret _ _ _ _ (zI 0) hS ⟨congrArg (fun x : Int => some (zV x)) (by unfold B1; rw [if_neg (by omega)]; rfl), rfl⟩ rfl dX1_u1_35
    · refine lv_iload_n C.1 C.2.1 dX1_u1_12 rfl (lv_at hl 1 rfl) ?_
      refine lv_aload_n C.1 C.2.1 dX1_u1_13 rfl (lv_at hl 0 rfl) ?_
      refine z_get C (v := .ref (ad 2)) hM.byt rfl bi_wsX10 0 (by decide) zw_3_19 rfl rfl dX1_u1_14 ?_
      refine z_alen C hM.row0 (ti := 0) rfl dX1_u1_17 ?_
      refine z_re (y := zI 16000) rfl ?_
      refine y_icmp_ge (tgt := 34) C (a := t) (b := 16000) dX1_u1_18 (by decide) (by omega) (fun h18 => ?_) (fun h18 => ?_)
      · refine lv_iconst (v := zI 0) C.1 C.2.1 dX1_u1_34 (by decide) ?_
        exact hret _ _ _ _ (zI 0) hS ⟨congrArg (fun x : Int => some (zV x)) (by unfold B1; rw [if_neg (by omega)]; rfl), rfl⟩ rfl dX1_u1_35
      · refine lv_aload_n C.1 C.2.1 dX1_u1_21 rfl (lv_at hl 0 rfl) ?_
        refine z_get C (v := .ref (ad 2)) hM.byt rfl bi_wsX10 0 (by decide) zw_3_19 rfl rfl dX1_u1_22 ?_
        refine lv_iload_n C.1 C.2.1 dX1_u1_25 rfl (lv_at hl 1 rfl) ?_
        refine z_bald C hM.row0 t.toNat (by rw [← zI_nat]; exact zI_c (by omega)) (by omega) (by decide) dX1_u1_26 ?_
        refine z_re (y := zI (sb (F t.toNat))) (hB.2.1 t.toNat (by omega)) ?_
        refine lv_sipush (v := zI 255) C.1 C.2.1 dX1_u1_27 (by decide) ?_
        refine lv_iand C.1 C.2.1 dX1_u1_30 ?_
        refine z_re (y := zI ((F t.toNat : Nat) : Int)) (and255 (hB.1 _)) ?_
        refine lv_goto (tgt := 35) C.1 C.2.1 dX1_u1_31 (by decide) ?_
        exact hret _ _ _ _ (zI ((F t.toNat : Nat) : Int)) hS ⟨congrArg (fun x : Int => some (zV x)) (by unfold B1; rw [if_pos (by omega)]), rfl⟩ rfl dX1_u1_35

set_option maxHeartbeats 4000000 in
set_option maxRecDepth 20000 in
theorem c_X1_u2 (l : Launch) (Z : zT) {H : Heap} {ad : Nat → Nat} {τ : mS} {X : List (Nat × va_E)} (hM : isC Z H ad τ X) {F : Nat → Nat} {n : Nat} (hB : cSrc τ F n) (t : Int) (ht : -2147483648 ≤ t ∧ t < 2147483648) : zP l Z yX1_u2 cX1_u2 2 (some .int) (rmk 1) [.ref (ad 1), zV t] H (zN (B2 F n t)) := by
  have hn := hB.2.2.2
  refine zM.introI (own := RX1) ⟨by decide, rfl⟩ (Nat.le_of_ble_eq_true rfl) ?_
  intro p e s m args below meth c Q ls hH C hl hret
  have hS : va_S (fun _ => False) s.heap H [] := by rw [hH]; exact va_S.rf
  have hl : lv_has ls 2 [(0, .ref (ad 1)), (1, zV t)] := hl
  refine lv_iload_n C.1 C.2.1 dX1_u2_0 rfl (lv_at hl 1 rfl) ?_
  refine y_if_lt (tgt := 25) C (a := t) dX1_u2_1 (by decide) (by omega) (fun h1 => ?_) (fun h1 => ?_)
  · refine lv_iconst (v := zI 0) C.1 C.2.1 dX1_u2_25 (by decide) ?_
    exact hret _ _ _ _ (zI 0) hS ⟨congrArg (fun x : Int => some (zV x)) (by unfold B2; rw [if_neg (by omega)]; rfl), rfl⟩ rfl dX1_u2_26
  · refine lv_iload_n C.1 C.2.1 dX1_u2_4 rfl (lv_at hl 1 rfl) ?_
    refine lv_aload_n C.1 C.2.1 dX1_u2_5 rfl (lv_at hl 0 rfl) ?_
    refine z_get C (v := .int (τ.1 0)) hM.byt rfl bi_wsX10 1 (by decide) zw_3_20 rfl rfl dX1_u2_6 ?_
    refine z_re (y := zI ((n : Nat) : Int)) hB.2.2.1 ?_
    refine lv_iconst (v := zI 2) C.1 C.2.1 dX1_u2_9 (by decide) ?_
    refine y_isub C (a := ((n : Nat) : Int)) (b := 2) dX1_u2_10 ?_
    refine y_icmp_gt (tgt := 25) C (a := t) (b := ((n : Nat) : Int) - 2) dX1_u2_11 (by decide) (by omega) (fun h11 => ?_) (fun h11 => ?_)
    · refine lv_iconst (v := zI 0) C.1 C.2.1 dX1_u2_25 (by decide) ?_
      exact hret _ _ _ _ (zI 0) hS ⟨congrArg (fun x : Int => some (zV x)) (by unfold B2; rw [if_neg (by omega)]; rfl), rfl⟩ rfl dX1_u2_26
    · refine lv_iload_n C.1 C.2.1 dX1_u2_14 rfl (lv_at hl 1 rfl) ?_
      refine lv_aload_n C.1 C.2.1 dX1_u2_15 rfl (lv_at hl 0 rfl) ?_
      refine z_get C (v := .ref (ad 2)) hM.byt rfl bi_wsX10 0 (by decide) zw_3_19 rfl rfl dX1_u2_16 ?_
      refine z_alen C hM.row0 (ti := 0) rfl dX1_u2_19 ?_
      refine z_re (y := zI 16000) rfl ?_
      refine lv_iconst (v := zI 2) C.1 C.2.1 dX1_u2_20 (by decide) ?_
      refine y_isub C (a := 16000) (b := 2) dX1_u2_21 ?_
      refine y_icmp_le (tgt := 27) C (a := t) (b := 16000 - 2) dX1_u2_22 (by decide) (by omega) (fun h22 => ?_) (fun h22 => ?_)
      · refine lv_aload_n C.1 C.2.1 dX1_u2_27 rfl (lv_at hl 0 rfl) ?_
        refine z_get C (v := .ref (ad 2)) hM.byt rfl bi_wsX10 0 (by decide) zw_3_19 rfl rfl dX1_u2_28 ?_
        refine lv_iload_n C.1 C.2.1 dX1_u2_31 rfl (lv_at hl 1 rfl) ?_
        refine z_bald C hM.row0 t.toNat (by rw [← zI_nat]; exact zI_c (by omega)) (by omega) (by decide) dX1_u2_32 ?_
        refine z_re (y := zI (sb (F t.toNat))) (hB.2.1 t.toNat (by omega)) ?_
        refine lv_sipush (v := zI 255) C.1 C.2.1 dX1_u2_33 (by decide) ?_
        refine lv_iand C.1 C.2.1 dX1_u2_36 ?_
        refine z_re (y := zI ((F t.toNat : Nat) : Int)) (and255 (hB.1 _)) ?_
        refine lv_bipush (v := zI 8) C.1 C.2.1 dX1_u2_37 (by decide) ?_
        refine lv_ishl C.1 C.2.1 dX1_u2_39 ?_
        refine z_re (y := zI ((2 ^ 8 * F t.toNat : Nat) : Int)) (shl8 (hB.1 _)) ?_
        refine lv_aload_n C.1 C.2.1 dX1_u2_40 rfl (lv_at hl 0 rfl) ?_
        refine z_get C (v := .ref (ad 2)) hM.byt rfl bi_wsX10 0 (by decide) zw_3_19 rfl rfl dX1_u2_41 ?_
        refine lv_iload_n C.1 C.2.1 dX1_u2_44 rfl (lv_at hl 1 rfl) ?_
        refine lv_iconst (v := zI 1) C.1 C.2.1 dX1_u2_45 (by decide) ?_
        refine y_iadd C (a := t) (b := 1) dX1_u2_46 ?_
        refine z_bald C hM.row0 (t.toNat + 1) (by rw [← zI_nat]; exact zI_c (by omega)) (by omega) (by decide) dX1_u2_47 ?_
        refine z_re (y := zI (sb (F (t.toNat + 1)))) (hB.2.1 (t.toNat + 1) (by omega)) ?_
        refine lv_sipush (v := zI 255) C.1 C.2.1 dX1_u2_48 (by decide) ?_
        refine lv_iand C.1 C.2.1 dX1_u2_51 ?_
        refine z_re (y := zI ((F (t.toNat + 1) : Nat) : Int)) (and255 (hB.1 _)) ?_
        refine lv_ior C.1 C.2.1 dX1_u2_52 ?_
        refine z_re (y := zI ((U2 F t.toNat : Nat) : Int)) (or_U2 hB.1 _) ?_
        exact hret _ _ _ _ (zI ((U2 F t.toNat : Nat) : Int)) hS ⟨congrArg (fun x : Int => some (zV x)) (by unfold B2; rw [if_pos (by omega)]), rfl⟩ rfl dX1_u2_53
      · refine lv_iconst (v := zI 0) C.1 C.2.1 dX1_u2_25 (by decide) ?_
        exact hret _ _ _ _ (zI 0) hS ⟨congrArg (fun x : Int => some (zV x)) (by unfold B2; rw [if_neg (by omega)]; rfl), rfl⟩ rfl dX1_u2_26

set_option maxHeartbeats 4000000 in
set_option maxRecDepth 20000 in
theorem c_X1_s4 (l : Launch) (Z : zT) {H : Heap} {ad : Nat → Nat} {τ : mS} {X : List (Nat × va_E)} (hM : isC Z H ad τ X) {F : Nat → Nat} {n : Nat} (hB : cSrc τ F n) (t : Int) (ht : -2147483648 ≤ t ∧ t < 2147483648) : zP l Z yX1_s4 cX1_s4 2 (some .int) (rmk 1) [.ref (ad 1), zV t] H (zV (B4 F n t)) := by
  have hn := hB.2.2.2
  refine zM.introI (own := RX1) ⟨by decide, rfl⟩ (Nat.le_of_ble_eq_true rfl) ?_
  intro p e s m args below meth c Q ls hH C hl hret
  have hS : va_S (fun _ => False) s.heap H [] := by rw [hH]; exact va_S.rf
  have hl : lv_has ls 2 [(0, .ref (ad 1)), (1, zV t)] := hl
  refine lv_iload_n C.1 C.2.1 dX1_s4_0 rfl (lv_at hl 1 rfl) ?_
  refine y_if_lt (tgt := 25) C (a := t) dX1_s4_1 (by decide) (by omega) (fun h1 => ?_) (fun h1 => ?_)
  · refine lv_iconst (v := zI 0) C.1 C.2.1 dX1_s4_25 (by decide) ?_
    exact hret _ _ _ _ (zI 0) hS ⟨congrArg (fun x : Int => some (zV x)) (by unfold B4; rw [if_neg (by omega)]), rfl⟩ rfl dX1_s4_26
  · refine lv_iload_n C.1 C.2.1 dX1_s4_4 rfl (lv_at hl 1 rfl) ?_
    refine lv_aload_n C.1 C.2.1 dX1_s4_5 rfl (lv_at hl 0 rfl) ?_
    refine z_get C (v := .int (τ.1 0)) hM.byt rfl bi_wsX10 1 (by decide) zw_3_20 rfl rfl dX1_s4_6 ?_
    refine z_re (y := zI ((n : Nat) : Int)) hB.2.2.1 ?_
    refine lv_iconst (v := zI 4) C.1 C.2.1 dX1_s4_9 (by decide) ?_
    refine y_isub C (a := ((n : Nat) : Int)) (b := 4) dX1_s4_10 ?_
    refine y_icmp_gt (tgt := 25) C (a := t) (b := ((n : Nat) : Int) - 4) dX1_s4_11 (by decide) (by omega) (fun h11 => ?_) (fun h11 => ?_)
    · refine lv_iconst (v := zI 0) C.1 C.2.1 dX1_s4_25 (by decide) ?_
      exact hret _ _ _ _ (zI 0) hS ⟨congrArg (fun x : Int => some (zV x)) (by unfold B4; rw [if_neg (by omega)]), rfl⟩ rfl dX1_s4_26
    · refine lv_iload_n C.1 C.2.1 dX1_s4_14 rfl (lv_at hl 1 rfl) ?_
      refine lv_aload_n C.1 C.2.1 dX1_s4_15 rfl (lv_at hl 0 rfl) ?_
      refine z_get C (v := .ref (ad 2)) hM.byt rfl bi_wsX10 0 (by decide) zw_3_19 rfl rfl dX1_s4_16 ?_
      refine z_alen C hM.row0 (ti := 0) rfl dX1_s4_19 ?_
      refine z_re (y := zI 16000) rfl ?_
      refine lv_iconst (v := zI 4) C.1 C.2.1 dX1_s4_20 (by decide) ?_
      refine y_isub C (a := 16000) (b := 4) dX1_s4_21 ?_
      refine y_icmp_le (tgt := 27) C (a := t) (b := 16000 - 4) dX1_s4_22 (by decide) (by omega) (fun h22 => ?_) (fun h22 => ?_)
      · refine lv_aload_n C.1 C.2.1 dX1_s4_27 rfl (lv_at hl 0 rfl) ?_
        refine z_get C (v := .ref (ad 2)) hM.byt rfl bi_wsX10 0 (by decide) zw_3_19 rfl rfl dX1_s4_28 ?_
        refine lv_iload_n C.1 C.2.1 dX1_s4_31 rfl (lv_at hl 1 rfl) ?_
        refine z_bald C hM.row0 t.toNat (by rw [← zI_nat]; exact zI_c (by omega)) (by omega) (by decide) dX1_s4_32 ?_
        refine z_re (y := zI (sb (F t.toNat))) (hB.2.1 t.toNat (by omega)) ?_
        refine lv_bipush (v := zI 24) C.1 C.2.1 dX1_s4_33 (by decide) ?_
        refine lv_ishl C.1 C.2.1 dX1_s4_35 ?_
        refine z_re (y := zI ((2 ^ 24 * F t.toNat : Nat) : Int)) (sb24 (hB.1 _)) ?_
        refine lv_aload_n C.1 C.2.1 dX1_s4_36 rfl (lv_at hl 0 rfl) ?_
        refine z_get C (v := .ref (ad 2)) hM.byt rfl bi_wsX10 0 (by decide) zw_3_19 rfl rfl dX1_s4_37 ?_
        refine lv_iload_n C.1 C.2.1 dX1_s4_40 rfl (lv_at hl 1 rfl) ?_
        refine lv_iconst (v := zI 1) C.1 C.2.1 dX1_s4_41 (by decide) ?_
        refine y_iadd C (a := t) (b := 1) dX1_s4_42 ?_
        refine z_bald C hM.row0 (t.toNat + 1) (by rw [← zI_nat]; exact zI_c (by omega)) (by omega) (by decide) dX1_s4_43 ?_
        refine z_re (y := zI (sb (F (t.toNat + 1)))) (hB.2.1 (t.toNat + 1) (by omega)) ?_
        refine lv_sipush (v := zI 255) C.1 C.2.1 dX1_s4_44 (by decide) ?_
        refine lv_iand C.1 C.2.1 dX1_s4_47 ?_
        refine z_re (y := zI ((F (t.toNat + 1) : Nat) : Int)) (and255 (hB.1 _)) ?_
        refine lv_bipush (v := zI 16) C.1 C.2.1 dX1_s4_48 (by decide) ?_
        refine lv_ishl C.1 C.2.1 dX1_s4_50 ?_
        refine z_re (y := zI ((2 ^ 16 * F (t.toNat + 1) : Nat) : Int)) (shl16 (Nat.lt_trans (hB.1 _) (by decide))) ?_
        refine lv_ior C.1 C.2.1 dX1_s4_51 ?_
        refine lv_aload_n C.1 C.2.1 dX1_s4_52 rfl (lv_at hl 0 rfl) ?_
        refine z_get C (v := .ref (ad 2)) hM.byt rfl bi_wsX10 0 (by decide) zw_3_19 rfl rfl dX1_s4_53 ?_
        refine lv_iload_n C.1 C.2.1 dX1_s4_56 rfl (lv_at hl 1 rfl) ?_
        refine lv_iconst (v := zI 2) C.1 C.2.1 dX1_s4_57 (by decide) ?_
        refine y_iadd C (a := t) (b := 2) dX1_s4_58 ?_
        refine z_bald C hM.row0 (t.toNat + 2) (by rw [← zI_nat]; exact zI_c (by omega)) (by omega) (by decide) dX1_s4_59 ?_
        refine z_re (y := zI (sb (F (t.toNat + 2)))) (hB.2.1 (t.toNat + 2) (by omega)) ?_
        refine lv_sipush (v := zI 255) C.1 C.2.1 dX1_s4_60 (by decide) ?_
        refine lv_iand C.1 C.2.1 dX1_s4_63 ?_
        refine z_re (y := zI ((F (t.toNat + 2) : Nat) : Int)) (and255 (hB.1 _)) ?_
        refine lv_bipush (v := zI 8) C.1 C.2.1 dX1_s4_64 (by decide) ?_
        refine lv_ishl C.1 C.2.1 dX1_s4_66 ?_
        refine z_re (y := zI ((2 ^ 8 * F (t.toNat + 2) : Nat) : Int)) (shl8 (hB.1 _)) ?_
        refine lv_ior C.1 C.2.1 dX1_s4_67 ?_
        refine lv_aload_n C.1 C.2.1 dX1_s4_68 rfl (lv_at hl 0 rfl) ?_
        refine z_get C (v := .ref (ad 2)) hM.byt rfl bi_wsX10 0 (by decide) zw_3_19 rfl rfl dX1_s4_69 ?_
        refine lv_iload_n C.1 C.2.1 dX1_s4_72 rfl (lv_at hl 1 rfl) ?_
        refine lv_iconst (v := zI 3) C.1 C.2.1 dX1_s4_73 (by decide) ?_
        refine y_iadd C (a := t) (b := 3) dX1_s4_74 ?_
        refine z_bald C hM.row0 (t.toNat + 3) (by rw [← zI_nat]; exact zI_c (by omega)) (by omega) (by decide) dX1_s4_75 ?_
        refine z_re (y := zI (sb (F (t.toNat + 3)))) (hB.2.1 (t.toNat + 3) (by omega)) ?_
        refine lv_sipush (v := zI 255) C.1 C.2.1 dX1_s4_76 (by decide) ?_
        refine lv_iand C.1 C.2.1 dX1_s4_79 ?_
        refine z_re (y := zI ((F (t.toNat + 3) : Nat) : Int)) (and255 (hB.1 _)) ?_
        refine lv_ior C.1 C.2.1 dX1_s4_80 ?_
        refine z_re (y := zI (S4 F t.toNat)) (or4 hB.1 _) ?_
        exact hret _ _ _ _ (zI (S4 F t.toNat)) hS ⟨congrArg (fun x : Int => some (zV x)) (by unfold B4; rw [if_pos (by omega)]), rfl⟩ rfl dX1_s4_81
      · refine lv_iconst (v := zI 0) C.1 C.2.1 dX1_s4_25 (by decide) ?_
        exact hret _ _ _ _ (zI 0) hS ⟨congrArg (fun x : Int => some (zV x)) (by unfold B4; rw [if_neg (by omega)]), rfl⟩ rfl dX1_s4_26

theorem i2b_sb {v : Nat} (h : v < 256) : (zI (v : Int)).toInt8.toInt32 = zI (sb v) := by
  have : ∀ v : Nat, v < 256 → (zI (v : Int)).toInt8.toInt32 = zI (sb v) := by decide +kernel
  exact this v h
def wr16 (v : Nat) : Int := if v < 32768 then (v : Int) else (v : Int) - 65536
theorem S2_wr (F : Nat → Nat) (k : Nat) : S2 F k = wr16 (U2 F k) := rfl
theorem i2s_wr {v : Nat} (h : v < 65536) : (zI (v : Int)).toInt16.toInt32 = zI (wr16 v) := by
  apply Int32.toInt_inj.mp
  have r : -32768 ≤ wr16 v ∧ wr16 v < 32768 := by unfold wr16; split <;> omega
  rw [zI_toInt (by omega), Int16.toInt_toInt32]
  rw [Int32.toInt_toInt16, zI_toInt (by omega)]
  unfold wr16
  rw [Int.bmod_def]
  split <;> split <;> omega

set_option maxHeartbeats 4000000 in
set_option maxRecDepth 20000 in
theorem c_X1_s1 (l : Launch) (Z : zT) {H : Heap} {ad : Nat → Nat} {τ : mS} {X : List (Nat × va_E)} (hM : isC Z H ad τ X) {F : Nat → Nat} {n : Nat} (hB : cSrc τ F n) (t : Int) (ht : -2147483648 ≤ t ∧ t < 2147483648) : zP l Z yX1_s1 cX1_s1 2 (some .int) (rmk 2) [.ref (ad 1), zV t] H (zV (sb (B1 F n t))) := by
  have hn := hB.2.2.2
  refine zM.introI (own := RX1) ⟨by decide, rfl⟩ (Nat.le_of_ble_eq_true rfl) ?_
  intro p e s m args below meth c Q ls hH C hl hret
  have hS : va_S (fun _ => False) s.heap H [] := by rw [hH]; exact va_S.rf
  have hl : lv_has ls 2 [(0, .ref (ad 1)), (1, zV t)] := hl
  refine lv_aload_n C.1 C.2.1 dX1_s1_0 rfl (lv_at hl 0 rfl) ?_
  refine lv_iload_n C.1 C.2.1 dX1_s1_1 rfl (lv_at hl 1 rfl) ?_
  refine z_readV C (As := [zV t]) (rest := []) (c_X1_u1 l Z hM hB t ht) hM.byt rfl ⟨⟨zw_9_12, zw_2_15, zw_39_13⟩, zd_X1_u1⟩ zw_9_10 zw_9_11 ⟨Nat.le_of_ble_eq_true rfl, Nat.le_of_ble_eq_true rfl⟩ ⟨rfl, rfl⟩ rfl hl.1 rfl (Nat.le_of_ble_eq_true rfl) dX1_s1_2 ⟨Nat.zero_le _, Nat.zero_le _⟩ hS (fun locs hS => ?_)
  refine lv_i2b (v := (zI ((B1 F n t : Nat) : Int)).toInt8.toInt32) C.1 C.2.1 dX1_s1_5 rfl ?_
  refine z_re (y := zI (sb (B1 F n t))) (i2b_sb (B1_lt hB.1 n t)) ?_
  exact hret _ _ _ _ (zI (sb (B1 F n t))) hS ⟨rfl, rfl⟩ rfl dX1_s1_6

set_option maxHeartbeats 4000000 in
set_option maxRecDepth 20000 in
theorem c_X1_s2 (l : Launch) (Z : zT) {H : Heap} {ad : Nat → Nat} {τ : mS} {X : List (Nat × va_E)} (hM : isC Z H ad τ X) {F : Nat → Nat} {n : Nat} (hB : cSrc τ F n) (t : Int) (ht : -2147483648 ≤ t ∧ t < 2147483648) : zP l Z yX1_s2 cX1_s2 2 (some .int) (rmk 2) [.ref (ad 1), zV t] H (zV (wr16 (B2 F n t))) := by
  have hn := hB.2.2.2
  refine zM.introI (own := RX1) ⟨by decide, rfl⟩ (Nat.le_of_ble_eq_true rfl) ?_
  intro p e s m args below meth c Q ls hH C hl hret
  have hS : va_S (fun _ => False) s.heap H [] := by rw [hH]; exact va_S.rf
  have hl : lv_has ls 2 [(0, .ref (ad 1)), (1, zV t)] := hl
  refine lv_aload_n C.1 C.2.1 dX1_s2_0 rfl (lv_at hl 0 rfl) ?_
  refine lv_iload_n C.1 C.2.1 dX1_s2_1 rfl (lv_at hl 1 rfl) ?_
  refine z_readV C (As := [zV t]) (rest := []) (c_X1_u2 l Z hM hB t ht) hM.byt rfl ⟨⟨zw_10_5, zw_2_15, zw_23_23⟩, zd_X1_u2⟩ zw_10_3 zw_10_4 ⟨Nat.le_of_ble_eq_true rfl, Nat.le_of_ble_eq_true rfl⟩ ⟨rfl, rfl⟩ rfl hl.1 rfl (Nat.le_of_ble_eq_true rfl) dX1_s2_2 ⟨Nat.zero_le _, Nat.zero_le _⟩ hS (fun locs hS => ?_)
  refine lv_i2s (v := (zI ((B2 F n t : Nat) : Int)).toInt16.toInt32) C.1 C.2.1 dX1_s2_5 rfl ?_
  refine z_re (y := zI (wr16 (B2 F n t))) (i2s_wr (B2_lt hB.1 n t)) ?_
  exact hret _ _ _ _ (zI (wr16 (B2 F n t))) hS ⟨rfl, rfl⟩ rfl dX1_s2_6

/-- c more bytes: those of f -/
def mTc (τ τ' : mS) (t c : Nat) (f : Nat → Int32) : Prop := chg [0] [2] τ τ' ∧ τ'.1 0 = zI ((t + c : Nat) : Int) ∧ (∀ j, j < t → τ'.2.1 2 j = τ.2.1 2 j) ∧ ∀ k, k < c → τ'.2.1 2 (t + k) = f k
theorem mTc.app {τ τ1 τ2 : mS} {t c d : Nat} {f g h : Nat → Int32} (a : mTc τ τ1 t c f) (b : mTc τ1 τ2 (t + c) d g) (e1 : ∀ k, k < c → h k = f k) (e2 : ∀ k, k < d → h (c + k) = g k) : mTc τ τ2 t (c + d) h := by
  obtain ⟨a1, a2, a3, a4⟩ := a
  obtain ⟨b1, b2, b3, b4⟩ := b
  refine ⟨a1.tr b1, by rw [b2, Nat.add_assoc], fun j hj => (b3 j (by omega)).trans (a3 j hj), fun k hk => ?_⟩
  by_cases e : k < c
  · rw [b3 (t + k) (by omega), a4 k e, e1 k e]
  · have := b4 (k - c) (by omega)
    rw [show t + c + (k - c) = t + k by omega] at this
    rw [this, ← e2 (k - c) (by omega), show c + (k - c) = k by omega]

set_option maxHeartbeats 4000000 in
set_option maxRecDepth 20000 in
theorem c_X1_append (l : Launch) (Z : zT) {H : Heap} {ad : Nat → Nat} {τ : mS} {X : List (Nat × va_E)} (hM : isC Z H ad τ X) {n : Nat} (h0 : τ.1 0 = zI (n : Int)) (hn : n + 4 ≤ 16000) (x : Int32) : zM l Z yX1_append cX1_append 3 none (rmk 1) [.ref (ad 1), .int x] H (cA ad) 0 0 (fun v H' => v = none ∧ ∃ τ' : mS, isC Z H' ad τ' X ∧ mTc τ τ' n 4 (bt x)) := by
  refine zM.introV (own := RX1) ⟨by decide, rfl⟩ (Nat.le_of_ble_eq_true rfl) ?_
  intro p e s m args below meth c Q ls hH C hnm hl hret
  have hS : va_S (cA ad) s.heap H [] := by rw [hH]; exact va_S.rf
  have hl : lv_has ls 3 [(0, .ref (ad 1)), (1, .int x)] := hl
  refine lv_bipush (v := zI 24) C.1 C.2.1 dX1_append_0 (by decide) ?_
  refine lv_istore_n (lv' := [(2, zN 24), (0, .ref (ad 1)), (1, .int x)]) C.1 C.2.1 dX1_append_2 rfl hl (by decide) rfl (fun ls hl => ?_)
  have loop : ∀ (fu : Nat) (k : Nat) (τ1 : mS) (H : Heap) (ls : Array Slot) (locs : List Loc), va_S (cA ad) s.heap H locs → isC Z H ad τ1 X → (k + fu = 5 ∧ k ≤ 4) → (mTc τ τ1 n k (bt x)) → lv_has ls 3 [(2, zV (24 - ((8 * k : Nat) : Int))), (0, .ref (ad 1)), (1, .int x)] → W p l e (rmk 1) s m args below meth c H locs 0 0 Q (F0 m 3 ls []) := by
    intro fu
    induction fu with
    | zero =>
      intro k τ1 H ls locs hS hM hk hT hl
      omega
    | succ fu ih_loop =>
      intro k τ1 H ls locs hS hM hk hT hl
      refine lv_iload_n C.1 C.2.1 dX1_append_3 rfl (lv_at hl 0 rfl) ?_
      refine y_if_lt (tgt := 55) C (a := 24 - ((8 * k : Nat) : Int)) dX1_append_4 (by decide) (by omega) (fun h4 => ?_) (fun h4 => ?_)
      · have k4 : k = 4 := by omega
        exact hret _ _ _ _ hS ⟨rfl, τ1, hM, (by rw [k4] at hT; exact hT)⟩ dX1_append_55
      · refine lv_aload_n C.1 C.2.1 dX1_append_7 rfl (lv_at hl 1 rfl) ?_
        refine z_get C (v := .int (τ1.1 0)) hM.byt rfl bi_wsX10 1 (by decide) zw_3_20 rfl rfl dX1_append_8 ?_
        refine z_re (y := zI ((n + k : Nat) : Int)) hT.2.1 ?_
        refine y_if_lt (tgt := 49) C (a := ((n + k : Nat) : Int)) dX1_append_11 (by decide) (by omega) (fun h11 => ?_) (fun h11 => ?_)
        · exact False.elim (by omega)
        · refine lv_aload_n C.1 C.2.1 dX1_append_14 rfl (lv_at hl 1 rfl) ?_
          refine z_get C (v := .int (τ1.1 0)) hM.byt rfl bi_wsX10 1 (by decide) zw_3_20 rfl rfl dX1_append_15 ?_
          refine z_re (y := zI ((n + k : Nat) : Int)) hT.2.1 ?_
          refine lv_aload_n C.1 C.2.1 dX1_append_18 rfl (lv_at hl 1 rfl) ?_
          refine z_get C (v := .ref (ad 2)) hM.byt rfl bi_wsX10 0 (by decide) zw_3_19 rfl rfl dX1_append_19 ?_
          refine z_alen C hM.row0 (ti := 0) rfl dX1_append_22 ?_
          refine z_re (y := zI 16000) rfl ?_
          refine y_icmp_ge (tgt := 49) C (a := ((n + k : Nat) : Int)) (b := 16000) dX1_append_23 (by decide) (by omega) (fun h23 => ?_) (fun h23 => ?_)
          · exact False.elim (by omega)
          · refine lv_aload_n C.1 C.2.1 dX1_append_26 rfl (lv_at hl 1 rfl) ?_
            refine z_get C (v := .ref (ad 2)) hM.byt rfl bi_wsX10 0 (by decide) zw_3_19 rfl rfl dX1_append_27 ?_
            refine lv_aload_n C.1 C.2.1 dX1_append_30 rfl (lv_at hl 1 rfl) ?_
            refine z_get C (v := .int (τ1.1 0)) hM.byt rfl bi_wsX10 1 (by decide) zw_3_20 rfl rfl dX1_append_31 ?_
            refine z_re (y := zI ((n + k : Nat) : Int)) hT.2.1 ?_
            refine lv_iload_n C.1 C.2.1 dX1_append_34 rfl (lv_at hl 2 rfl) ?_
            refine lv_iload_n C.1 C.2.1 dX1_append_35 rfl (lv_at hl 0 rfl) ?_
            refine lv_ishr C.1 C.2.1 dX1_append_36 ?_
            refine lv_i2b (v := (x >>> ((zI (24 - ((8 * k : Nat) : Int))) &&& 31)).toInt8.toInt32) C.1 C.2.1 dX1_append_37 rfl ?_
            refine z_bast C hM.row0 (n + k) (zI_nat _) (by omega) (by decide) hS (cA.k 2 (by decide)) dX1_append_38 (fun H locs hu hn hS => ?_)
            have hM := hM.sf2 hu hn
            refine lv_aload_n C.1 C.2.1 dX1_append_39 rfl (lv_at hl 1 rfl) ?_
            refine lv_dup C.1 C.2.1 dX1_append_40 rfl ?_
            refine z_get C (v := .int ((sf τ1 2 (upd (τ1.2.1 2) (n + k) ((x >>> ((zI (24 - ((8 * k : Nat) : Int))) &&& 31)).toInt8.toInt32).toInt8.toInt32)).1 0)) hM.byt rfl bi_wsX10 1 (by decide) zw_3_20 rfl rfl dX1_append_41 ?_
            refine z_re (y := zI ((n + k : Nat) : Int)) hT.2.1 ?_
            refine lv_iconst (v := zI 1) C.1 C.2.1 dX1_append_44 (by decide) ?_
            refine y_iaddN C (a := n + k) (b := 1) dX1_append_45 ?_
            refine z_put C (v := zN ((n + k) + 1)) tyX1 hM.byt rfl bi_wsX10 tyX1_ok nmX1 1 (by decide) zw_3_20 rfl rfl rfl rfl (Nat.le_of_ble_eq_true rfl) hS (cA.k 1 (by decide)) dX1_append_46 (fun H locs hu hn hS => ?_)
            have hM := hM.sx0 hu hn
            refine lv_iinc (v := zI (24 - ((8 * k : Nat) : Int) + -8)) (lv' := [(2, zV (24 - ((8 * k : Nat) : Int) + -8)), (0, .ref (ad 1)), (1, .int x)]) C.1 C.2.1 dX1_append_49 hl (k := 0) rfl (zI_add _ _) (by decide) rfl (fun ls hl => ?_)
            have hl : lv_has ls 3 [(2, zV (24 - ((8 * (k + 1) : Nat) : Int))), (0, .ref (ad 1)), (1, .int x)] := by rw [show (24 - ((8 * (k + 1) : Nat) : Int)) = 24 - ((8 * k : Nat) : Int) + -8 from by omega]; exact hl
            refine lv_goto (tgt := 3) C.1 C.2.1 dX1_append_52 (by decide) ?_
            exact ih_loop (k + 1) _ _ ls _ hS hM (by omega) ⟨(chg_sx (by decide) (chg_sf (by decide) hT.1)), zI_c (by omega), (fun j hj => (upd_ne (by omega)).trans (hT.2.2.1 j hj)), (fun j hj => by rcases Nat.lt_succ_iff_lt_or_eq.mp hj with h | h; (exact (upd_ne (by omega)).trans (hT.2.2.2 j h)); (subst h; exact upd_2.trans (bt_bt x _)))⟩ hl
  exact loop 5 0 _ _ ls _ hS hM (by omega) ⟨chg.rf, h0, fun _ _ => rfl, fun _ h => absurd h (Nat.not_lt_zero _)⟩ hl

set_option maxHeartbeats 4000000 in
set_option maxRecDepth 20000 in
theorem c_X10_broken (l : Launch) (Z : zT) {H : Heap} {ad : Nat → Nat} {τ : mS} {X : List (Nat × va_E)} (hM : isC Z H ad τ X) (r w : Int32) : zM l Z yX10_broken cX10_broken 3 (some .int) (rmk 1) [.ref (ad 15), .int r, .int w] H (cA ad) 0 0 (fun v H' => v = some (zV (-1)) ∧ isC Z H' ad (sx (sx τ 8 r) 9 w) X) := by
  refine zM.introI (own := RX10) ⟨by decide, rfl⟩ (Nat.le_of_ble_eq_true rfl) ?_
  intro p e s m args below meth c Q ls hH C hl hret
  have hS : va_S (cA ad) s.heap H [] := by rw [hH]; exact va_S.rf
  have hl : lv_has ls 3 [(0, .ref (ad 15)), (1, .int r), (2, .int w)] := hl
  refine lv_aload_n C.1 C.2.1 dX10_broken_0 rfl (lv_at hl 0 rfl) ?_
  refine lv_iload_n C.1 C.2.1 dX10_broken_1 rfl (lv_at hl 1 rfl) ?_
  refine z_put C (v := .int r) tyX10 hM.ver rfl bi_wsX100 tyX10_ok nmX10 0 (by decide) zw_2_7 rfl rfl rfl rfl (Nat.le_of_ble_eq_true rfl) hS (cA.k 15 (by decide)) dX10_broken_2 (fun H locs hu hn hS => ?_)
  have hM := hM.sx8 hu hn
  refine lv_aload_n C.1 C.2.1 dX10_broken_5 rfl (lv_at hl 0 rfl) ?_
  refine lv_iload_n C.1 C.2.1 dX10_broken_6 rfl (lv_at hl 2 rfl) ?_
  refine z_put C (v := .int w) tyX10 hM.ver rfl bi_wsX100 tyX10_ok nmX10 1 (by decide) zw_2_8 rfl rfl rfl rfl (Nat.le_of_ble_eq_true rfl) hS (cA.k 15 (by decide)) dX10_broken_7 (fun H locs hu hn hS => ?_)
  have hM := hM.sx9 hu hn
  refine lv_iconst (v := zI (-1)) C.1 C.2.1 dX10_broken_10 (by decide) ?_
  exact hret _ _ _ _ (zI (-1)) hS ⟨rfl, hM⟩ rfl dX10_broken_11

set_option maxHeartbeats 4000000 in
set_option maxRecDepth 20000 in
theorem c_X10_clear (l : Launch) (Z : zT) {H : Heap} {ad : Nat → Nat} {τ : mS} {X : List (Nat × va_E)} (hM : isC Z H ad τ X) : zM l Z yX10_clear cX10_clear 1 none (rmk 1) [.ref (ad 15)] H (cA ad) 0 0 (fun v H' => v = none ∧ isC Z H' ad (sx (sx τ 8 (zI 0)) 9 (zI (-1))) X) := by
  refine zM.introV (own := RX10) ⟨by decide, rfl⟩ (Nat.le_of_ble_eq_true rfl) ?_
  intro p e s m args below meth c Q ls hH C hnm hl hret
  have hS : va_S (cA ad) s.heap H [] := by rw [hH]; exact va_S.rf
  have hl : lv_has ls 1 [(0, .ref (ad 15))] := hl
  refine lv_aload_n C.1 C.2.1 dX10_clear_0 rfl (lv_at hl 0 rfl) ?_
  refine lv_iconst (v := zI 0) C.1 C.2.1 dX10_clear_1 (by decide) ?_
  refine z_put C (v := zN 0) tyX10 hM.ver rfl bi_wsX100 tyX10_ok nmX10 0 (by decide) zw_2_7 rfl rfl rfl rfl (Nat.le_of_ble_eq_true rfl) hS (cA.k 15 (by decide)) dX10_clear_2 (fun H locs hu hn hS => ?_)
  have hM := hM.sx8 hu hn
  refine lv_aload_n C.1 C.2.1 dX10_clear_5 rfl (lv_at hl 0 rfl) ?_
  refine lv_iconst (v := zI (-1)) C.1 C.2.1 dX10_clear_6 (by decide) ?_
  refine z_put C (v := zV (-1)) tyX10 hM.ver rfl bi_wsX100 tyX10_ok nmX10 1 (by decide) zw_2_8 rfl rfl rfl rfl (Nat.le_of_ble_eq_true rfl) hS (cA.k 15 (by decide)) dX10_clear_7 (fun H locs hu hn hS => ?_)
  have hM := hM.sx9 hu hn
  exact hret _ _ _ _ hS ⟨rfl, hM⟩ dX10_clear_10

set_option maxHeartbeats 4000000 in
set_option maxRecDepth 20000 in
theorem c_X10_keeps (l : Launch) (Z : zT) {H : Heap} {ad : Nat → Nat} {τ : mS} {X : List (Nat × va_E)} (hM : isC Z H ad τ X) (r : Int32) (t : Int) (ht : -2147483648 ≤ t ∧ t < 2147483648) : zM l Z yX10_keeps cX10_keeps 3 (some .boolean) (rmk 2) [.ref (ad 15), .int r, zV t] H (cA ad) 0 0 (fun v H' => (t = -1 → v = some (zV 1) ∧ isC Z H' ad τ X) ∧ (t ≠ -1 → v = some (zV 0) ∧ isC Z H' ad (sx (sx τ 8 r) 9 (zI t)) X)) := by
  refine zM.introI (own := RX10) ⟨by decide, rfl⟩ (Nat.le_of_ble_eq_true rfl) ?_
  intro p e s m args below meth c Q ls hH C hl hret
  have hS : va_S (cA ad) s.heap H [] := by rw [hH]; exact va_S.rf
  have hl : lv_has ls 3 [(0, .ref (ad 15)), (1, .int r), (2, zV t)] := hl
  refine lv_iload_n C.1 C.2.1 dX10_keeps_0 rfl (lv_at hl 2 rfl) ?_
  refine lv_iconst (v := zI (-1)) C.1 C.2.1 dX10_keeps_1 (by decide) ?_
  refine y_icmp_ne (tgt := 7) C (a := t) (b := -1) dX10_keeps_2 (by decide) (by omega) (fun h2 => ?_) (fun h2 => ?_)
  · refine lv_aload_n C.1 C.2.1 dX10_keeps_7 rfl (lv_at hl 0 rfl) ?_
    refine lv_iload_n C.1 C.2.1 dX10_keeps_8 rfl (lv_at hl 1 rfl) ?_
    refine lv_iload_n C.1 C.2.1 dX10_keeps_9 rfl (lv_at hl 2 rfl) ?_
    refine z_callV C (As := [.int r, zV t]) (rest := []) (c_X10_broken l Z hM r (zI t)) hM.ver rfl ⟨⟨zw_9_8, zw_1_14, zw_14_3⟩, zd_X10_broken⟩ zw_9_6 zw_9_7 ⟨Nat.le_of_ble_eq_true rfl, Nat.le_of_ble_eq_true rfl⟩ ⟨rfl, rfl⟩ rfl hl.1 rfl (Nat.le_of_ble_eq_true rfl) dX10_keeps_10 ⟨Nat.zero_le _, Nat.zero_le _⟩ hS (fun _ h => h) (fun v H locs hp hS hz hk => ?_)
    obtain ⟨rfl, hM⟩ := hp
    refine lv_pop C.1 C.2.1 dX10_keeps_13 rfl ?_
    refine lv_iconst (v := zI 0) C.1 C.2.1 dX10_keeps_14 (by decide) ?_
    exact hret _ _ _ _ (zI 0) hS ⟨fun z => absurd z (by omega), fun _ => ⟨rfl, hM⟩⟩ rfl dX10_keeps_15
  · refine lv_iconst (v := zI 1) C.1 C.2.1 dX10_keeps_5 (by decide) ?_
    exact hret _ _ _ _ (zI 1) hS ⟨fun _ => ⟨rfl, hM⟩, fun z => absurd (show t = -1 by omega) z⟩ rfl dX10_keeps_6
