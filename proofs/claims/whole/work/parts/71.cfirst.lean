/-! the component: an instruction's first number -/
def piC (F tb : Nat → Nat) (p : Nat) : Int := if F p = 16 then sb (F (p + 1)) else if F p = 17 then S2 F (p + 1) else if F p = 18 ∨ F p = 19 then S4 F (tb (enC F p) + 1) else (F p : Int) - 3
def plC (F tb : Nat → Nat) (p : Nat) : Int := if F p = 20 then S4 F (tb (enC F p) + 5) else (F p : Int) - 9
def fiC (F tb mt : Nat → Nat) (cl nf nm ca sz N q : Nat) : Int :=
  if kdC (ocC F (ca + q)) = 300 then piC F tb (ca + q) else if kdC (ocC F (ca + q)) = 301 then plC F tb (ca + q) else if isLo (kdC (ocC F (ca + q))) = true then (loC F (ca + q) : Int) else if isJp (kdC (ocC F (ca + q))) = true then numC F ca sz N ((q : Int) + jpO F (ca + q)) else
  if isSw (kdC (ocC F (ca + q))) = true then numC F ca sz N ((q : Int) + tgP F ca q 0) else if isFd (kdC (ocC F (ca + q))) = true ∨ kdC (ocC F (ca + q)) = 184 then mbC F tb mt cl nf nm (enC F (ca + q)) else 0

set_option maxHeartbeats 4000000 in
set_option maxRecDepth 20000 in
theorem c_X5_pushedInt (l : Launch) (Z : zT) {H : Heap} {ad : Nat → Nat} {τ : mS} {X : List (Nat × va_E)} (hM : isC Z H ad τ X) {F : Nat → Nat} {n : Nat} (hB : cSrc τ F n) {tb : Nat → Nat} (hP : cPl τ F tb (U2 F 8)) {k : Nat} (hk : k + 1 < n) (hk2 : (F k = 17 ∨ F k = 19 ∨ F k = 20 ∨ F k = 178 ∨ F k = 179 ∨ F k = 184) → k + 3 ≤ n) (hke : (F k = 18 ∨ F k = 19) → enC F k < U2 F 8 ∧ tb (enC F k) + 5 ≤ n) : zP l Z yX5_pushedInt cX5_pushedInt 3 (some .int) (rmk 3) [.ref (ad 0), zN k] H (zV (piC F tb k)) := by
  have hn := hB.2.2.2
  have hFk := hB.1 k
  have hFk1 := hB.1 (k + 1)
  have hp1 := hP.2.1
  refine zM.introI (own := RX5) ⟨by decide, rfl⟩ (Nat.le_of_ble_eq_true rfl) ?_
  intro p e s m args below meth c Q ls hH C hl hret
  have hS : va_S (fun _ => False) s.heap H [] := by rw [hH]; exact va_S.rf
  have hl : lv_has ls 3 [(0, .ref (ad 0)), (1, zN k)] := hl
  refine lv_aload_n C.1 C.2.1 dX5_pushedInt_0 rfl (lv_at hl 0 rfl) ?_
  refine z_get C (v := .ref (ad 1)) hM.img rfl bi_wsX20 0 (by decide) zw_20_18 rfl rfl dX5_pushedInt_1 ?_
  refine lv_iload_n C.1 C.2.1 dX5_pushedInt_4 rfl (lv_at hl 1 rfl) ?_
  refine z_readV C (As := [zN k]) (rest := []) (c_u1 l Z hM hB k rfl (by omega)) hM.byt rfl ⟨⟨zw_9_12, zw_2_15, zw_24_21⟩, zd_X1_u1⟩ zw_9_10 zw_9_11 ⟨Nat.le_of_ble_eq_true rfl, Nat.le_of_ble_eq_true rfl⟩ ⟨rfl, rfl⟩ rfl hl.1 rfl (Nat.le_of_ble_eq_true rfl) dX5_pushedInt_5 ⟨Nat.zero_le _, Nat.zero_le _⟩ hS (fun locs hS => ?_)
  have := hB.1 k
  refine lv_istore_n (lv' := [(2, zN (F k)), (0, .ref (ad 0)), (1, zN k)]) C.1 C.2.1 dX5_pushedInt_8 rfl hl (by decide) rfl (fun ls hl => ?_)
  refine lv_iload_n C.1 C.2.1 dX5_pushedInt_9 rfl (lv_at hl 0 rfl) ?_
  rcases (show ((F k : Nat) : Int) = 16 ∨ ((F k : Nat) : Int) = 17 ∨ ((F k : Nat) : Int) = 18 ∨ ((F k : Nat) : Int) = 19 ∨ (((F k : Nat) : Int) < 16 ∨ 19 < ((F k : Nat) : Int)) by omega) with h10 | h10 | h10 | h10 | h10
  · refine y_tabIn C 16 h10 dX5_pushedInt_10 (by decide) rfl (tgt := 40) (by decide) ?_
    refine lv_aload_n C.1 C.2.1 dX5_pushedInt_40 rfl (lv_at hl 1 rfl) ?_
    refine z_get C (v := .ref (ad 1)) hM.img rfl bi_wsX20 0 (by decide) zw_20_18 rfl rfl dX5_pushedInt_41 ?_
    refine lv_iload_n C.1 C.2.1 dX5_pushedInt_44 rfl (lv_at hl 2 rfl) ?_
    refine lv_iconst (v := zI 1) C.1 C.2.1 dX5_pushedInt_45 (by decide) ?_
    refine y_iaddN C (a := k) (b := 1) dX5_pushedInt_46 ?_
    refine z_readV C (As := [zN (k + 1)]) (rest := []) (c_s1 l Z hM hB (k + 1) rfl (by omega)) hM.byt rfl ⟨⟨zw_39_12, zw_2_15, zw_39_9⟩, zd_X1_s1⟩ zw_39_10 zw_39_11 ⟨Nat.le_of_ble_eq_true rfl, Nat.le_of_ble_eq_true rfl⟩ ⟨rfl, rfl⟩ rfl hl.1 rfl (Nat.le_of_ble_eq_true rfl) dX5_pushedInt_47 ⟨Nat.zero_le _, Nat.zero_le _⟩ hS (fun locs hS => ?_)
    have := sb_rg (hB.1 (k + 1))
    exact hret _ _ _ _ (zI (sb (F (k + 1)))) hS ⟨congrArg (fun x : Int => some (zV x)) (by unfold piC; (repeat' split) <;> omega), rfl⟩ rfl dX5_pushedInt_50
  · refine y_tabIn C 17 h10 dX5_pushedInt_10 (by decide) rfl (tgt := 51) (by decide) ?_
    have := hk2 (by omega)
    refine lv_aload_n C.1 C.2.1 dX5_pushedInt_51 rfl (lv_at hl 1 rfl) ?_
    refine z_get C (v := .ref (ad 1)) hM.img rfl bi_wsX20 0 (by decide) zw_20_18 rfl rfl dX5_pushedInt_52 ?_
    refine lv_iload_n C.1 C.2.1 dX5_pushedInt_55 rfl (lv_at hl 2 rfl) ?_
    refine lv_iconst (v := zI 1) C.1 C.2.1 dX5_pushedInt_56 (by decide) ?_
    refine y_iaddN C (a := k) (b := 1) dX5_pushedInt_57 ?_
    refine z_readV C (As := [zN (k + 1)]) (rest := []) (c_s2 l Z hM hB (k + 1) rfl (by omega)) hM.byt rfl ⟨⟨zw_23_22, zw_2_15, zw_39_14⟩, zd_X1_s2⟩ zw_23_20 zw_23_21 ⟨Nat.le_of_ble_eq_true rfl, Nat.le_of_ble_eq_true rfl⟩ ⟨rfl, rfl⟩ rfl hl.1 rfl (Nat.le_of_ble_eq_true rfl) dX5_pushedInt_58 ⟨Nat.zero_le _, Nat.zero_le _⟩ hS (fun locs hS => ?_)
    have := S2_rg hB.1 (k + 1)
    exact hret _ _ _ _ (zI (S2 F (k + 1))) hS ⟨congrArg (fun x : Int => some (zV x)) (by unfold piC; (repeat' split) <;> omega), rfl⟩ rfl dX5_pushedInt_61
  · refine y_tabIn C 18 h10 dX5_pushedInt_10 (by decide) rfl (tgt := 62) (by decide) ?_
    have hke1 := hke (by omega)
    refine lv_aload_n C.1 C.2.1 dX5_pushedInt_62 rfl (lv_at hl 1 rfl) ?_
    refine z_get C (v := .ref (ad 1)) hM.img rfl bi_wsX20 0 (by decide) zw_20_18 rfl rfl dX5_pushedInt_63 ?_
    refine lv_aload_n C.1 C.2.1 dX5_pushedInt_66 rfl (lv_at hl 1 rfl) ?_
    refine z_get C (v := .ref (ad 3)) hM.img rfl bi_wsX20 1 (by decide) zw_21_22 rfl rfl dX5_pushedInt_67 ?_
    refine z_get C (v := .ref (ad 4)) hM.pol rfl bi_wsX70 1 (by decide) zw_39_8 rfl rfl dX5_pushedInt_70 ?_
    refine lv_aload_n C.1 C.2.1 dX5_pushedInt_73 rfl (lv_at hl 1 rfl) ?_
    refine z_get C (v := .ref (ad 1)) hM.img rfl bi_wsX20 0 (by decide) zw_20_18 rfl rfl dX5_pushedInt_74 ?_
    refine lv_iload_n C.1 C.2.1 dX5_pushedInt_77 rfl (lv_at hl 2 rfl) ?_
    refine z_readS C (As := [.ref (ad 1), zN k]) (rest := [.ref (ad 4), .ref (ad 1)]) (c_X3_entryAt l Z hM hB (k := k) (by omega) (fun z => hk2 (by omega))) ⟨⟨zw_23_1, zw_20_22, zw_22_23⟩, zd_X3_entryAt⟩ zw_23_0 ⟨Nat.le_of_ble_eq_true rfl, Nat.le_of_ble_eq_true rfl⟩ ⟨rfl, rfl⟩ rfl hl.1 rfl (Nat.le_of_ble_eq_true rfl) dX5_pushedInt_78 ⟨Nat.zero_le _, Nat.zero_le _⟩ hS (fun locs hS => ?_)
    refine z_readSN C (As := [.ref (ad 4), zN (enC F k)]) (rest := [.ref (ad 1)]) (c_at l Z (hM.row 4 (by decide)) (by decide) (enC F k) rfl (by show _ < 500; omega)) ⟨⟨zw_11_13, zw_1_2⟩, zd_X11_at⟩ (by decide) zw_11_12 ⟨Nat.le_of_ble_eq_true rfl, Nat.le_of_ble_eq_true rfl⟩ ⟨rfl, rfl⟩ rfl hl.1 rfl (Nat.le_of_ble_eq_true rfl) dX5_pushedInt_81 ⟨Nat.zero_le _, Nat.zero_le _⟩ hS (fun locs hS => ?_)
    refine z_re (y := zI ((tb (enC F k) : Nat) : Int)) ((hP.2.2 (enC F k) (by omega)).1) ?_
    refine lv_iconst (v := zI 1) C.1 C.2.1 dX5_pushedInt_84 (by decide) ?_
    refine y_iaddN C (a := tb (enC F k)) (b := 1) dX5_pushedInt_85 ?_
    refine z_readV C (As := [zN ((tb (enC F k)) + 1)]) (rest := []) (c_s4 l Z hM hB ((tb (enC F k)) + 1) rfl (by omega)) hM.byt rfl ⟨⟨zw_13_1, zw_2_15, zw_39_15⟩, zd_X1_s4⟩ zw_12_23 zw_13_0 ⟨Nat.le_of_ble_eq_true rfl, Nat.le_of_ble_eq_true rfl⟩ ⟨rfl, rfl⟩ rfl hl.1 rfl (Nat.le_of_ble_eq_true rfl) dX5_pushedInt_86 ⟨Nat.zero_le _, Nat.zero_le _⟩ hS (fun locs hS => ?_)
    have := S4_rg hB.1 ((tb (enC F k)) + 1)
    exact hret _ _ _ _ (zI (S4 F ((tb (enC F k)) + 1))) hS ⟨congrArg (fun x : Int => some (zV x)) (by unfold piC; (repeat' split) <;> omega), rfl⟩ rfl dX5_pushedInt_89
  · refine y_tabIn C 19 h10 dX5_pushedInt_10 (by decide) rfl (tgt := 62) (by decide) ?_
    have hke1 := hke (by omega)
    refine lv_aload_n C.1 C.2.1 dX5_pushedInt_62 rfl (lv_at hl 1 rfl) ?_
    refine z_get C (v := .ref (ad 1)) hM.img rfl bi_wsX20 0 (by decide) zw_20_18 rfl rfl dX5_pushedInt_63 ?_
    refine lv_aload_n C.1 C.2.1 dX5_pushedInt_66 rfl (lv_at hl 1 rfl) ?_
    refine z_get C (v := .ref (ad 3)) hM.img rfl bi_wsX20 1 (by decide) zw_21_22 rfl rfl dX5_pushedInt_67 ?_
    refine z_get C (v := .ref (ad 4)) hM.pol rfl bi_wsX70 1 (by decide) zw_39_8 rfl rfl dX5_pushedInt_70 ?_
    refine lv_aload_n C.1 C.2.1 dX5_pushedInt_73 rfl (lv_at hl 1 rfl) ?_
    refine z_get C (v := .ref (ad 1)) hM.img rfl bi_wsX20 0 (by decide) zw_20_18 rfl rfl dX5_pushedInt_74 ?_
    refine lv_iload_n C.1 C.2.1 dX5_pushedInt_77 rfl (lv_at hl 2 rfl) ?_
    refine z_readS C (As := [.ref (ad 1), zN k]) (rest := [.ref (ad 4), .ref (ad 1)]) (c_X3_entryAt l Z hM hB (k := k) (by omega) (fun z => hk2 (by omega))) ⟨⟨zw_23_1, zw_20_22, zw_22_23⟩, zd_X3_entryAt⟩ zw_23_0 ⟨Nat.le_of_ble_eq_true rfl, Nat.le_of_ble_eq_true rfl⟩ ⟨rfl, rfl⟩ rfl hl.1 rfl (Nat.le_of_ble_eq_true rfl) dX5_pushedInt_78 ⟨Nat.zero_le _, Nat.zero_le _⟩ hS (fun locs hS => ?_)
    refine z_readSN C (As := [.ref (ad 4), zN (enC F k)]) (rest := [.ref (ad 1)]) (c_at l Z (hM.row 4 (by decide)) (by decide) (enC F k) rfl (by show _ < 500; omega)) ⟨⟨zw_11_13, zw_1_2⟩, zd_X11_at⟩ (by decide) zw_11_12 ⟨Nat.le_of_ble_eq_true rfl, Nat.le_of_ble_eq_true rfl⟩ ⟨rfl, rfl⟩ rfl hl.1 rfl (Nat.le_of_ble_eq_true rfl) dX5_pushedInt_81 ⟨Nat.zero_le _, Nat.zero_le _⟩ hS (fun locs hS => ?_)
    refine z_re (y := zI ((tb (enC F k) : Nat) : Int)) ((hP.2.2 (enC F k) (by omega)).1) ?_
    refine lv_iconst (v := zI 1) C.1 C.2.1 dX5_pushedInt_84 (by decide) ?_
    refine y_iaddN C (a := tb (enC F k)) (b := 1) dX5_pushedInt_85 ?_
    refine z_readV C (As := [zN ((tb (enC F k)) + 1)]) (rest := []) (c_s4 l Z hM hB ((tb (enC F k)) + 1) rfl (by omega)) hM.byt rfl ⟨⟨zw_13_1, zw_2_15, zw_39_15⟩, zd_X1_s4⟩ zw_12_23 zw_13_0 ⟨Nat.le_of_ble_eq_true rfl, Nat.le_of_ble_eq_true rfl⟩ ⟨rfl, rfl⟩ rfl hl.1 rfl (Nat.le_of_ble_eq_true rfl) dX5_pushedInt_86 ⟨Nat.zero_le _, Nat.zero_le _⟩ hS (fun locs hS => ?_)
    have := S4_rg hB.1 ((tb (enC F k)) + 1)
    exact hret _ _ _ _ (zI (S4 F ((tb (enC F k)) + 1))) hS ⟨congrArg (fun x : Int => some (zV x)) (by unfold piC; (repeat' split) <;> omega), rfl⟩ rfl dX5_pushedInt_89
  · refine y_tabOut C h10 (by omega) dX5_pushedInt_10 (tgt := 90) (by decide) ?_
    refine lv_iload_n C.1 C.2.1 dX5_pushedInt_90 rfl (lv_at hl 0 rfl) ?_
    refine lv_iconst (v := zI 3) C.1 C.2.1 dX5_pushedInt_91 (by decide) ?_
    refine y_isub C (a := ((F k : Nat) : Int)) (b := 3) dX5_pushedInt_92 ?_
    exact hret _ _ _ _ (zI (((F k : Nat) : Int) - 3)) hS ⟨congrArg (fun x : Int => some (zV x)) (by unfold piC; (repeat' split) <;> omega), rfl⟩ rfl dX5_pushedInt_93

set_option maxHeartbeats 4000000 in
set_option maxRecDepth 20000 in
theorem c_X5_pushedLongLow (l : Launch) (Z : zT) {H : Heap} {ad : Nat → Nat} {τ : mS} {X : List (Nat × va_E)} (hM : isC Z H ad τ X) {F : Nat → Nat} {n : Nat} (hB : cSrc τ F n) {tb : Nat → Nat} (hP : cPl τ F tb (U2 F 8)) {k : Nat} (hk : k + 1 < n) (hk2 : (F k = 17 ∨ F k = 19 ∨ F k = 20 ∨ F k = 178 ∨ F k = 179 ∨ F k = 184) → k + 3 ≤ n) (hke : F k = 20 → enC F k < U2 F 8 ∧ tb (enC F k) + 9 ≤ n) : zP l Z yX5_pushedLongLow cX5_pushedLongLow 3 (some .int) (rmk 3) [.ref (ad 0), zN k] H (zV (plC F tb k)) := by
  have hn := hB.2.2.2
  have hFk := hB.1 k
  have hFk1 := hB.1 (k + 1)
  have hp1 := hP.2.1
  refine zM.introI (own := RX5) ⟨by decide, rfl⟩ (Nat.le_of_ble_eq_true rfl) ?_
  intro p e s m args below meth c Q ls hH C hl hret
  have hS : va_S (fun _ => False) s.heap H [] := by rw [hH]; exact va_S.rf
  have hl : lv_has ls 3 [(0, .ref (ad 0)), (1, zN k)] := hl
  refine lv_aload_n C.1 C.2.1 dX5_pushedLongLow_0 rfl (lv_at hl 0 rfl) ?_
  refine z_get C (v := .ref (ad 1)) hM.img rfl bi_wsX20 0 (by decide) zw_20_18 rfl rfl dX5_pushedLongLow_1 ?_
  refine lv_iload_n C.1 C.2.1 dX5_pushedLongLow_4 rfl (lv_at hl 1 rfl) ?_
  refine z_readV C (As := [zN k]) (rest := []) (c_u1 l Z hM hB k rfl (by omega)) hM.byt rfl ⟨⟨zw_9_12, zw_2_15, zw_24_21⟩, zd_X1_u1⟩ zw_9_10 zw_9_11 ⟨Nat.le_of_ble_eq_true rfl, Nat.le_of_ble_eq_true rfl⟩ ⟨rfl, rfl⟩ rfl hl.1 rfl (Nat.le_of_ble_eq_true rfl) dX5_pushedLongLow_5 ⟨Nat.zero_le _, Nat.zero_le _⟩ hS (fun locs hS => ?_)
  have := hB.1 k
  refine lv_istore_n (lv' := [(2, zN (F k)), (0, .ref (ad 0)), (1, zN k)]) C.1 C.2.1 dX5_pushedLongLow_8 rfl hl (by decide) rfl (fun ls hl => ?_)
  refine lv_iload_n C.1 C.2.1 dX5_pushedLongLow_9 rfl (lv_at hl 0 rfl) ?_
  refine lv_bipush (v := zI 20) C.1 C.2.1 dX5_pushedLongLow_10 (by decide) ?_
  refine y_icmp_ne (tgt := 43) C (a := ((F k : Nat) : Int)) (b := 20) dX5_pushedLongLow_12 (by decide) (by omega) (fun h12 => ?_) (fun h12 => ?_)
  · refine lv_iload_n C.1 C.2.1 dX5_pushedLongLow_43 rfl (lv_at hl 0 rfl) ?_
    refine lv_bipush (v := zI 9) C.1 C.2.1 dX5_pushedLongLow_44 (by decide) ?_
    refine y_isub C (a := ((F k : Nat) : Int)) (b := 9) dX5_pushedLongLow_46 ?_
    exact hret _ _ _ _ (zI (((F k : Nat) : Int) - 9)) hS ⟨congrArg (fun x : Int => some (zV x)) (by unfold plC; (repeat' split) <;> omega), rfl⟩ rfl dX5_pushedLongLow_47
  · have hke1 := hke (by omega)
    refine lv_aload_n C.1 C.2.1 dX5_pushedLongLow_15 rfl (lv_at hl 1 rfl) ?_
    refine z_get C (v := .ref (ad 1)) hM.img rfl bi_wsX20 0 (by decide) zw_20_18 rfl rfl dX5_pushedLongLow_16 ?_
    refine lv_aload_n C.1 C.2.1 dX5_pushedLongLow_19 rfl (lv_at hl 1 rfl) ?_
    refine z_get C (v := .ref (ad 3)) hM.img rfl bi_wsX20 1 (by decide) zw_21_22 rfl rfl dX5_pushedLongLow_20 ?_
    refine z_get C (v := .ref (ad 4)) hM.pol rfl bi_wsX70 1 (by decide) zw_39_8 rfl rfl dX5_pushedLongLow_23 ?_
    refine lv_aload_n C.1 C.2.1 dX5_pushedLongLow_26 rfl (lv_at hl 1 rfl) ?_
    refine z_get C (v := .ref (ad 1)) hM.img rfl bi_wsX20 0 (by decide) zw_20_18 rfl rfl dX5_pushedLongLow_27 ?_
    refine lv_iload_n C.1 C.2.1 dX5_pushedLongLow_30 rfl (lv_at hl 2 rfl) ?_
    refine z_readS C (As := [.ref (ad 1), zN k]) (rest := [.ref (ad 4), .ref (ad 1)]) (c_X3_entryAt l Z hM hB (k := k) (by omega) (fun z => hk2 (by omega))) ⟨⟨zw_23_1, zw_20_22, zw_22_23⟩, zd_X3_entryAt⟩ zw_23_0 ⟨Nat.le_of_ble_eq_true rfl, Nat.le_of_ble_eq_true rfl⟩ ⟨rfl, rfl⟩ rfl hl.1 rfl (Nat.le_of_ble_eq_true rfl) dX5_pushedLongLow_31 ⟨Nat.zero_le _, Nat.zero_le _⟩ hS (fun locs hS => ?_)
    refine z_readSN C (As := [.ref (ad 4), zN (enC F k)]) (rest := [.ref (ad 1)]) (c_at l Z (hM.row 4 (by decide)) (by decide) (enC F k) rfl (by show _ < 500; omega)) ⟨⟨zw_11_13, zw_1_2⟩, zd_X11_at⟩ (by decide) zw_11_12 ⟨Nat.le_of_ble_eq_true rfl, Nat.le_of_ble_eq_true rfl⟩ ⟨rfl, rfl⟩ rfl hl.1 rfl (Nat.le_of_ble_eq_true rfl) dX5_pushedLongLow_34 ⟨Nat.zero_le _, Nat.zero_le _⟩ hS (fun locs hS => ?_)
    refine z_re (y := zI ((tb (enC F k) : Nat) : Int)) ((hP.2.2 (enC F k) (by omega)).1) ?_
    refine lv_iconst (v := zI 5) C.1 C.2.1 dX5_pushedLongLow_37 (by decide) ?_
    refine y_iaddN C (a := tb (enC F k)) (b := 5) dX5_pushedLongLow_38 ?_
    refine z_readV C (As := [zN ((tb (enC F k)) + 5)]) (rest := []) (c_s4 l Z hM hB ((tb (enC F k)) + 5) rfl (by omega)) hM.byt rfl ⟨⟨zw_13_1, zw_2_15, zw_39_15⟩, zd_X1_s4⟩ zw_12_23 zw_13_0 ⟨Nat.le_of_ble_eq_true rfl, Nat.le_of_ble_eq_true rfl⟩ ⟨rfl, rfl⟩ rfl hl.1 rfl (Nat.le_of_ble_eq_true rfl) dX5_pushedLongLow_39 ⟨Nat.zero_le _, Nat.zero_le _⟩ hS (fun locs hS => ?_)
    have := S4_rg hB.1 ((tb (enC F k)) + 5)
    exact hret _ _ _ _ (zI (S4 F ((tb (enC F k)) + 5))) hS ⟨congrArg (fun x : Int => some (zV x)) (by unfold plC; (repeat' split) <;> omega), rfl⟩ rfl dX5_pushedLongLow_42

theorem spM_3f {b : Nat} (h : b = 17 ∨ b = 19 ∨ b = 20 ∨ b = 178 ∨ b = 179 ∨ b = 184) : spM b = 3 := by
  have : ∀ b, b < 256 → (b = 17 ∨ b = 19 ∨ b = 20 ∨ b = 178 ∨ b = 179 ∨ b = 184) → spM b = 3 := by decide +kernel
  exact this b (by omega) h
theorem kd_300 {b : Nat} (h : kdC b = 300) : (2 ≤ b ∧ b ≤ 8) ∨ (16 ≤ b ∧ b ≤ 19) ∨ b = 300 := by unfold kdC at h; (repeat' split at h) <;> omega
theorem kd_184 {b : Nat} (h : kdC b = 184) : b = 184 := by unfold kdC at h; (repeat' split at h) <;> omega

set_option maxHeartbeats 4000000 in
set_option maxRecDepth 20000 in
theorem c_X5_firstNumber (l : Launch) (Z : zT) {H : Heap} {ad : Nat → Nat} {τ : mS} {X : List (Nat × va_E)} (hM : isC Z H ad τ X) {F : Nat → Nat} {n : Nat} (hB : cSrc τ F n) {ca sz ml ch cn f0 N bm : Nat} (hm : cMt τ F n ca sz ml ch cn f0 N bm) {tb mt : Nat → Nat} {cl nf nm : Nat} (hP : cPl τ F tb (U2 F 8)) (hmb : ∀ k, 1 ≤ k → k < U2 F 8 → τ.2.1 10 k = zI (mbC F tb mt cl nf nm k)) (hnfm : nf + nm ≤ 48) {q : Nat} (hq : q < sz) (hsp : 0 < spR F ca sz q) (hpp : pPl F n tb (U2 F 8)) (hok : insOk F tb mt cl nf nm ca sz ml (nbR F ca sz N) q (F (ca + q)) = true) : zP l Z yX5_firstNumber cX5_firstNumber 4 (some .int) (rmk 5) [.ref (ad 0), .ref (ad (16 + bm)), zN (ca + q)] H (zV (fiC F tb mt cl nf nm ca sz N q)) := by
  have hn := hB.2.2.2
  obtain ⟨m1, m2, m3, m4, m5, m6, m7, m8, m9, m10, m11, m12, m13, m14⟩ := id hm
  obtain ⟨hv, hs2, hs3⟩ := sp_b hsp hq
  have hp1 := hP.2.1
  have hbb := hB.1 (ca + q)
  have hE3 : F (ca + q) = 18 ∨ F (ca + q) = 19 → enC F (ca + q) < U2 F 8 ∧ tb (enC F (ca + q)) + 5 ≤ n := fun z => (by
      have hi : isE F tb (U2 F 8) (enC F (ca + q)) 3 = true := by
        rcases z with z | z
        · rw [ins_18 z] at hok; rw [show enC F (ca + q) = F (ca + q + 1) from if_pos z]; exact hok
        · rw [ins_19 z] at hok; rw [show enC F (ca + q) = U2 F (ca + q + 1) from (if_neg (by omega)).trans (if_pos (by omega))]; exact hok
      have h3 := hpp.tgs (isE_t hi).2.2 (by decide) (by decide)
      exact ⟨(isE_t hi).2.1, h3.2.2.2.1⟩)
  have hE5 : F (ca + q) = 20 → enC F (ca + q) < U2 F 8 ∧ tb (enC F (ca + q)) + 9 ≤ n := fun z => (by
      have hi : isE F tb (U2 F 8) (enC F (ca + q)) 5 = true := by rw [ins_20 z] at hok; rw [show enC F (ca + q) = U2 F (ca + q + 1) from (if_neg (by omega)).trans (if_pos (by omega))]; exact hok
      have h3 := hpp.tgs (isE_t hi).2.2 (by decide) (by decide)
      exact ⟨(isE_t hi).2.1, h3.2.2.2.1⟩)
  refine zM.introI (own := RX5) ⟨by decide, rfl⟩ (Nat.le_of_ble_eq_true rfl) ?_
  intro p e s m args below meth c Q ls hH C hl hret
  have hS : va_S (fun _ => False) s.heap H [] := by rw [hH]; exact va_S.rf
  have hl : lv_has ls 4 [(0, .ref (ad 0)), (1, .ref (ad (16 + bm))), (2, zN (ca + q))] := hl
  refine lv_aload_n C.1 C.2.1 dX5_firstNumber_0 rfl (lv_at hl 0 rfl) ?_
  refine z_get C (v := .ref (ad 1)) hM.img rfl bi_wsX20 0 (by decide) zw_20_18 rfl rfl dX5_firstNumber_1 ?_
  refine lv_iload_n C.1 C.2.1 dX5_firstNumber_4 rfl (lv_at hl 2 rfl) ?_
  refine z_readS C (As := [.ref (ad 1), zN (ca + q)]) (rest := []) (c_X3_kindAt l Z hM hB (k := ca + q) (by omega)) ⟨⟨zw_22_22, zw_20_22, zw_22_20⟩, zd_X3_kindAt⟩ zw_22_21 ⟨Nat.le_of_ble_eq_true rfl, Nat.le_of_ble_eq_true rfl⟩ ⟨rfl, rfl⟩ rfl hl.1 rfl (Nat.le_of_ble_eq_true rfl) dX5_firstNumber_5 ⟨Nat.zero_le _, Nat.zero_le _⟩ hS (fun locs hS => ?_)
  have hkl := kdC_lt hB.1 (ca + q)
  refine lv_istore_n (lv' := [(3, zN (kdC (ocC F (ca + q)))), (0, .ref (ad 0)), (1, .ref (ad (16 + bm))), (2, zN (ca + q))]) C.1 C.2.1 dX5_firstNumber_8 rfl hl (by decide) rfl (fun ls hl => ?_)
  refine lv_iload_n C.1 C.2.1 dX5_firstNumber_9 rfl (lv_at hl 0 rfl) ?_
  refine lv_sipush (v := zI 300) C.1 C.2.1 dX5_firstNumber_10 (by decide) ?_
  refine y_icmp_ne (tgt := 22) C (a := ((kdC (ocC F (ca + q)) : Nat) : Int)) (b := 300) dX5_firstNumber_13 (by decide) (by omega) (fun h13 => ?_) (fun h13 => ?_)
  · refine lv_iload_n C.1 C.2.1 dX5_firstNumber_22 rfl (lv_at hl 0 rfl) ?_
    refine lv_sipush (v := zI 301) C.1 C.2.1 dX5_firstNumber_23 (by decide) ?_
    refine y_icmp_ne (tgt := 35) C (a := ((kdC (ocC F (ca + q)) : Nat) : Int)) (b := 301) dX5_firstNumber_26 (by decide) (by omega) (fun h26 => ?_) (fun h26 => ?_)
    · refine lv_iload_n C.1 C.2.1 dX5_firstNumber_35 rfl (lv_at hl 0 rfl) ?_
      refine z_readS C (As := [zN (kdC (ocC F (ca + q)))]) (rest := []) (c_X3_isLocal l Z (kdC (ocC F (ca + q))) (by omega)) ⟨⟨zw_23_5, zw_20_22, zw_23_3⟩, zd_X3_isLocal⟩ zw_23_4 ⟨Nat.le_of_ble_eq_true rfl, Nat.le_of_ble_eq_true rfl⟩ ⟨rfl, rfl⟩ rfl hl.1 rfl (Nat.le_of_ble_eq_true rfl) dX5_firstNumber_36 ⟨Nat.zero_le _, Nat.zero_le _⟩ hS (fun locs hS => ?_)
      refine y_ifb_eq (tgt := 51) C dX5_firstNumber_39 (by decide) (fun h39 => ?_) (fun h39 => ?_)
      · have hnl := kd_nlo hv h39
        have hEm : isFd (kdC (ocC F (ca + q))) = true ∨ kdC (ocC F (ca + q)) = 184 → 1 ≤ enC F (ca + q) ∧ enC F (ca + q) < U2 F 8 := fun z => (by
            rw [hnl.2] at z
            have hb : F (ca + q) = 178 ∨ F (ca + q) = 179 ∨ F (ca + q) = 184 := by
              rcases z with z | z
              · have := of_decide_eq_true (kd_fd (b := F (ca + q)) ▸ z : decide (F (ca + q) = 178 ∨ F (ca + q) = 179) = true); omega
              · have := kd_184 z; omega
            have e : enC F (ca + q) = U2 F (ca + q + 1) := (if_neg (by omega)).trans (if_pos (by omega))
            rcases hb with c | c | c
            · rw [ins_178 (Or.inl c)] at hok
              cases x : isE F tb (U2 F 8) (U2 F (ca + q + 1)) 9
              · have := of_decide_eq_true hok; rw [mbR_no x] at this; omega
              · rw [e]; exact ⟨(isE_t x).1, (isE_t x).2.1⟩
            · rw [ins_178 (Or.inr c)] at hok
              cases x : isE F tb (U2 F 8) (U2 F (ca + q + 1)) 9
              · have := of_decide_eq_true hok; rw [mbR_no x] at this; omega
              · rw [e]; exact ⟨(isE_t x).1, (isE_t x).2.1⟩
            · rw [ins_184 c] at hok
              cases x : isE F tb (U2 F 8) (U2 F (ca + q + 1)) 10
              · have := of_decide_eq_true hok; rw [mbR_no x] at this; omega
              · rw [e]; exact ⟨(isE_t x).1, (isE_t x).2.1⟩)
        refine lv_iload_n C.1 C.2.1 dX5_firstNumber_51 rfl (lv_at hl 0 rfl) ?_
        refine z_readS C (As := [zN (kdC (ocC F (ca + q)))]) (rest := []) (c_X3_isJump l Z (kdC (ocC F (ca + q))) (by omega)) ⟨⟨zw_23_15, zw_20_22, zw_23_13⟩, zd_X3_isJump⟩ zw_23_14 ⟨Nat.le_of_ble_eq_true rfl, Nat.le_of_ble_eq_true rfl⟩ ⟨rfl, rfl⟩ rfl hl.1 rfl (Nat.le_of_ble_eq_true rfl) dX5_firstNumber_52 ⟨Nat.zero_le _, Nat.zero_le _⟩ hS (fun locs hS => ?_)
        refine y_ifb_eq (tgt := 72) C dX5_firstNumber_55 (by decide) (fun h55 => ?_) (fun h55 => ?_)
        · refine lv_iload_n C.1 C.2.1 dX5_firstNumber_72 rfl (lv_at hl 0 rfl) ?_
          refine z_readS C (As := [zN (kdC (ocC F (ca + q)))]) (rest := []) (c_X3_isSwitch l Z (kdC (ocC F (ca + q))) (by omega)) ⟨⟨zw_24_8, zw_20_22, zw_24_6⟩, zd_X3_isSwitch⟩ zw_24_7 ⟨Nat.le_of_ble_eq_true rfl, Nat.le_of_ble_eq_true rfl⟩ ⟨rfl, rfl⟩ rfl hl.1 rfl (Nat.le_of_ble_eq_true rfl) dX5_firstNumber_73 ⟨Nat.zero_le _, Nat.zero_le _⟩ hS (fun locs hS => ?_)
          refine y_ifb_eq (tgt := 98) C dX5_firstNumber_76 (by decide) (fun h76 => ?_) (fun h76 => ?_)
          · have hsb := of_decide_eq_false (kd_sw (b := F (ca + q)) ▸ (by rw [hnl.2] at h76; exact h76) : decide (F (ca + q) = 170 ∨ F (ca + q) = 171) = false)
            refine lv_iload_n C.1 C.2.1 dX5_firstNumber_98 rfl (lv_at hl 0 rfl) ?_
            refine z_readS C (As := [zN (kdC (ocC F (ca + q)))]) (rest := []) (c_X3_isField l Z (kdC (ocC F (ca + q))) (by omega)) ⟨⟨zw_24_20, zw_20_22, zw_24_18⟩, zd_X3_isField⟩ zw_24_19 ⟨Nat.le_of_ble_eq_true rfl, Nat.le_of_ble_eq_true rfl⟩ ⟨rfl, rfl⟩ rfl hl.1 rfl (Nat.le_of_ble_eq_true rfl) dX5_firstNumber_99 ⟨Nat.zero_le _, Nat.zero_le _⟩ hS (fun locs hS => ?_)
            refine y_ifb_ne (tgt := 112) C dX5_firstNumber_102 (by decide) (fun h102 => ?_) (fun h102 => ?_)
            · have hfb := of_decide_eq_true (kd_fd (b := F (ca + q)) ▸ (by rw [hnl.2] at h102; exact h102) : decide (F (ca + q) = 178 ∨ F (ca + q) = 179) = true)
              refine lv_aload_n C.1 C.2.1 dX5_firstNumber_112 rfl (lv_at hl 1 rfl) ?_
              refine z_get C (v := .ref (ad 3)) hM.img rfl bi_wsX20 1 (by decide) zw_21_22 rfl rfl dX5_firstNumber_113 ?_
              refine z_get C (v := .ref (ad 10)) hM.pol rfl bi_wsX70 7 (by decide) zw_22_3 rfl rfl dX5_firstNumber_116 ?_
              refine lv_aload_n C.1 C.2.1 dX5_firstNumber_119 rfl (lv_at hl 1 rfl) ?_
              refine z_get C (v := .ref (ad 1)) hM.img rfl bi_wsX20 0 (by decide) zw_20_18 rfl rfl dX5_firstNumber_120 ?_
              refine lv_iload_n C.1 C.2.1 dX5_firstNumber_123 rfl (lv_at hl 3 rfl) ?_
              refine z_readS C (As := [.ref (ad 1), zN (ca + q)]) (rest := [.ref (ad 10)]) (c_X3_entryAt l Z hM hB (k := ca + q) (by omega) (fun z => by have h3 := hs3 (by omega) (by omega) (by omega); rw [spM_3 (by omega)] at h3; omega)) ⟨⟨zw_23_1, zw_20_22, zw_22_23⟩, zd_X3_entryAt⟩ zw_23_0 ⟨Nat.le_of_ble_eq_true rfl, Nat.le_of_ble_eq_true rfl⟩ ⟨rfl, rfl⟩ rfl hl.1 rfl (Nat.le_of_ble_eq_true rfl) dX5_firstNumber_124 ⟨Nat.zero_le _, Nat.zero_le _⟩ hS (fun locs hS => ?_)
              have henl := enC_lt hB.1 (ca + q)
              have hee : 1 ≤ enC F (ca + q) ∧ enC F (ca + q) < U2 F 8 := hEm (by first | exact Or.inl h102 | exact Or.inr (by omega))
              refine z_readSN C (As := [.ref (ad 10), zN (enC F (ca + q))]) (rest := []) (c_at l Z (hM.row 10 (by decide)) (by decide) (enC F (ca + q)) rfl (by show _ < 500; omega)) ⟨⟨zw_11_13, zw_1_2⟩, zd_X11_at⟩ (by decide) zw_11_12 ⟨Nat.le_of_ble_eq_true rfl, Nat.le_of_ble_eq_true rfl⟩ ⟨rfl, rfl⟩ rfl hl.1 rfl (Nat.le_of_ble_eq_true rfl) dX5_firstNumber_127 ⟨Nat.zero_le _, Nat.zero_le _⟩ hS (fun locs hS => ?_)
              refine z_re (y := zI (mbC F tb mt cl nf nm (enC F (ca + q)))) (hmb _ hee.1 hee.2) ?_
              exact hret _ _ _ _ (zI (mbC F tb mt cl nf nm (enC F (ca + q)))) hS ⟨congrArg (fun x : Int => some (zV x)) (by unfold fiC; rw [if_neg (by omega), if_neg (by omega), if_neg (by rw [h39]; decide), if_neg (by rw [h55]; decide), if_neg (by rw [h76]; decide), if_pos (by first | exact Or.inl h102 | exact Or.inr (by omega))]), rfl⟩ rfl dX5_firstNumber_130
            · refine lv_iload_n C.1 C.2.1 dX5_firstNumber_105 rfl (lv_at hl 0 rfl) ?_
              refine lv_sipush (v := zI 184) C.1 C.2.1 dX5_firstNumber_106 (by decide) ?_
              refine y_icmp_ne (tgt := 131) C (a := ((kdC (ocC F (ca + q)) : Nat) : Int)) (b := 184) dX5_firstNumber_109 (by decide) (by omega) (fun h109 => ?_) (fun h109 => ?_)
              · refine lv_iconst (v := zI 0) C.1 C.2.1 dX5_firstNumber_131 (by decide) ?_
                exact hret _ _ _ _ (zI 0) hS ⟨congrArg (fun x : Int => some (zV x)) (by unfold fiC; rw [if_neg (by omega), if_neg (by omega), if_neg (by rw [h39]; decide), if_neg (by rw [h55]; decide), if_neg (by rw [h76]; decide), if_neg (fun z => by rcases z with z | z; (rw [z] at h102; cases h102); omega)]), rfl⟩ rfl dX5_firstNumber_132
              · have hfb := kd_184 (show kdC (F (ca + q)) = 184 by rw [← hnl.2]; omega)
                refine lv_aload_n C.1 C.2.1 dX5_firstNumber_112 rfl (lv_at hl 1 rfl) ?_
                refine z_get C (v := .ref (ad 3)) hM.img rfl bi_wsX20 1 (by decide) zw_21_22 rfl rfl dX5_firstNumber_113 ?_
                refine z_get C (v := .ref (ad 10)) hM.pol rfl bi_wsX70 7 (by decide) zw_22_3 rfl rfl dX5_firstNumber_116 ?_
                refine lv_aload_n C.1 C.2.1 dX5_firstNumber_119 rfl (lv_at hl 1 rfl) ?_
                refine z_get C (v := .ref (ad 1)) hM.img rfl bi_wsX20 0 (by decide) zw_20_18 rfl rfl dX5_firstNumber_120 ?_
                refine lv_iload_n C.1 C.2.1 dX5_firstNumber_123 rfl (lv_at hl 3 rfl) ?_
                refine z_readS C (As := [.ref (ad 1), zN (ca + q)]) (rest := [.ref (ad 10)]) (c_X3_entryAt l Z hM hB (k := ca + q) (by omega) (fun z => by have h3 := hs3 (by omega) (by omega) (by omega); rw [spM_3 (by omega)] at h3; omega)) ⟨⟨zw_23_1, zw_20_22, zw_22_23⟩, zd_X3_entryAt⟩ zw_23_0 ⟨Nat.le_of_ble_eq_true rfl, Nat.le_of_ble_eq_true rfl⟩ ⟨rfl, rfl⟩ rfl hl.1 rfl (Nat.le_of_ble_eq_true rfl) dX5_firstNumber_124 ⟨Nat.zero_le _, Nat.zero_le _⟩ hS (fun locs hS => ?_)
                have henl := enC_lt hB.1 (ca + q)
                have hee : 1 ≤ enC F (ca + q) ∧ enC F (ca + q) < U2 F 8 := hEm (by first | exact Or.inl h102 | exact Or.inr (by omega))
                refine z_readSN C (As := [.ref (ad 10), zN (enC F (ca + q))]) (rest := []) (c_at l Z (hM.row 10 (by decide)) (by decide) (enC F (ca + q)) rfl (by show _ < 500; omega)) ⟨⟨zw_11_13, zw_1_2⟩, zd_X11_at⟩ (by decide) zw_11_12 ⟨Nat.le_of_ble_eq_true rfl, Nat.le_of_ble_eq_true rfl⟩ ⟨rfl, rfl⟩ rfl hl.1 rfl (Nat.le_of_ble_eq_true rfl) dX5_firstNumber_127 ⟨Nat.zero_le _, Nat.zero_le _⟩ hS (fun locs hS => ?_)
                refine z_re (y := zI (mbC F tb mt cl nf nm (enC F (ca + q)))) (hmb _ hee.1 hee.2) ?_
                exact hret _ _ _ _ (zI (mbC F tb mt cl nf nm (enC F (ca + q)))) hS ⟨congrArg (fun x : Int => some (zV x)) (by unfold fiC; rw [if_neg (by omega), if_neg (by omega), if_neg (by rw [h39]; decide), if_neg (by rw [h55]; decide), if_neg (by rw [h76]; decide), if_pos (by first | exact Or.inl h102 | exact Or.inr (by omega))]), rfl⟩ rfl dX5_firstNumber_130
          · have hsb := of_decide_eq_true (kd_sw (b := F (ca + q)) ▸ (by rw [hnl.2] at h76; exact h76) : decide (F (ca + q) = 170 ∨ F (ca + q) = 171) = true)
            obtain ⟨Msw, hsw, -⟩ := swM_of rfl hsb hsp
            obtain ⟨hsI, hsk⟩ := swI_of hsw (n := n) (by omega)
            refine lv_aload_n C.1 C.2.1 dX5_firstNumber_79 rfl (lv_at hl 1 rfl) ?_
            refine lv_aload_n C.1 C.2.1 dX5_firstNumber_80 rfl (lv_at hl 2 rfl) ?_
            refine lv_aload_n C.1 C.2.1 dX5_firstNumber_81 rfl (lv_at hl 1 rfl) ?_
            refine z_get C (v := .ref (ad 1)) hM.img rfl bi_wsX20 0 (by decide) zw_20_18 rfl rfl dX5_firstNumber_82 ?_
            refine lv_iload_n C.1 C.2.1 dX5_firstNumber_85 rfl (lv_at hl 3 rfl) ?_
            refine lv_aload_n C.1 C.2.1 dX5_firstNumber_86 rfl (lv_at hl 2 rfl) ?_
            refine z_get C (v := .int (τ.2.1 24 bm)) (hM.bod bm (by omega)) rfl bi_wsX00 4 (by decide) zw_20_16 rfl rfl dX5_firstNumber_87 ?_
            refine z_re (y := zI ((ca : Nat) : Int)) m8 ?_
            refine lv_iconst (v := zI 0) C.1 C.2.1 dX5_firstNumber_90 (by decide) ?_
            refine z_readS C (As := [.ref (ad 1), zN (ca + q), zN ca, zN 0]) (rest := [.ref (ad (16 + bm)), .ref (ad 0)]) (c_X3_targetPlace l Z hM hB (ca := ca) (q := q) (by omega) hsI (t := 0) (by omega)) ⟨⟨zw_24_17, zw_20_22, zw_24_15⟩, zd_X3_targetPlace⟩ zw_24_16 ⟨Nat.le_of_ble_eq_true rfl, Nat.le_of_ble_eq_true rfl⟩ ⟨rfl, rfl⟩ rfl hl.1 rfl (Nat.le_of_ble_eq_true rfl) dX5_firstNumber_91 ⟨Nat.zero_le _, Nat.zero_le _⟩ hS (fun locs hS => ?_)
            have htg := tgP_rg hB.1 ca q 0
            refine z_readV C (As := [.ref (ad (16 + bm)), zV (((ca + q : Nat) : Int) + tgP F ca q 0)]) (rest := []) (c_num l Z hM hm hn (T := ((ca + q : Nat) : Int) + tgP F ca q 0) (t := (q : Int) + tgP F ca q 0) (by omega) (by omega)) hM.img rfl ⟨⟨zw_24_3, zw_1_18, zw_24_0⟩, zd_X2_numberAt⟩ zw_24_1 zw_24_2 ⟨Nat.le_of_ble_eq_true rfl, Nat.le_of_ble_eq_true rfl⟩ ⟨rfl, rfl⟩ rfl hl.1 rfl (Nat.le_of_ble_eq_true rfl) dX5_firstNumber_94 ⟨Nat.zero_le _, Nat.zero_le _⟩ hS (fun locs hS => ?_)
            have hnc94 := numC_rg F ca sz N ((q : Int) + tgP F ca q 0)
            have hnd94 := numC_c F ca sz N ((q : Int) + tgP F ca q 0)
            exact hret _ _ _ _ (zI (numC F ca sz N ((q : Int) + tgP F ca q 0))) hS ⟨congrArg (fun x : Int => some (zV x)) (by unfold fiC; rw [if_neg (by omega), if_neg (by omega), if_neg (by rw [h39]; decide), if_neg (by rw [h55]; decide), if_pos h76]), rfl⟩ rfl dX5_firstNumber_97
        · have hjb := kd_jp (by rw [hnl.2] at h55; exact h55)
          have hjb4 : F (ca + q) = 200 ∨ F (ca + q) ≠ 200 := Classical.em _
          refine lv_aload_n C.1 C.2.1 dX5_firstNumber_58 rfl (lv_at hl 1 rfl) ?_
          refine lv_aload_n C.1 C.2.1 dX5_firstNumber_59 rfl (lv_at hl 2 rfl) ?_
          refine lv_aload_n C.1 C.2.1 dX5_firstNumber_60 rfl (lv_at hl 1 rfl) ?_
          refine z_get C (v := .ref (ad 1)) hM.img rfl bi_wsX20 0 (by decide) zw_20_18 rfl rfl dX5_firstNumber_61 ?_
          refine lv_iload_n C.1 C.2.1 dX5_firstNumber_64 rfl (lv_at hl 3 rfl) ?_
          refine z_readS C (As := [.ref (ad 1), zN (ca + q)]) (rest := [.ref (ad (16 + bm)), .ref (ad 0)]) (c_X3_jumpPlace l Z hM hB (k := ca + q) (by rcases hjb4 with z | z; (have h5 := hs3 (by omega) (by omega) (by omega); rw [z, show spM 200 = 5 from by decide] at h5; omega); (have h3 := hs3 (by omega) (by omega) (by omega); rw [spM_3 (by omega)] at h3; omega)) (fun z => by have h5 := hs3 (by omega) (by omega) (by omega); rw [z, show spM 200 = 5 from by decide] at h5; omega)) ⟨⟨zw_23_18, zw_20_22, zw_23_16⟩, zd_X3_jumpPlace⟩ zw_23_17 ⟨Nat.le_of_ble_eq_true rfl, Nat.le_of_ble_eq_true rfl⟩ ⟨rfl, rfl⟩ rfl hl.1 rfl (Nat.le_of_ble_eq_true rfl) dX5_firstNumber_65 ⟨Nat.zero_le _, Nat.zero_le _⟩ hS (fun locs hS => ?_)
          have hjr := jpO_rg hB.1 (ca + q)
          refine z_readV C (As := [.ref (ad (16 + bm)), zV (((ca + q : Nat) : Int) + jpO F (ca + q))]) (rest := []) (c_num l Z hM hm hn (T := ((ca + q : Nat) : Int) + jpO F (ca + q)) (t := (q : Int) + jpO F (ca + q)) (by omega) (by omega)) hM.img rfl ⟨⟨zw_24_3, zw_1_18, zw_24_0⟩, zd_X2_numberAt⟩ zw_24_1 zw_24_2 ⟨Nat.le_of_ble_eq_true rfl, Nat.le_of_ble_eq_true rfl⟩ ⟨rfl, rfl⟩ rfl hl.1 rfl (Nat.le_of_ble_eq_true rfl) dX5_firstNumber_68 ⟨Nat.zero_le _, Nat.zero_le _⟩ hS (fun locs hS => ?_)
          have hnc68 := numC_rg F ca sz N ((q : Int) + jpO F (ca + q))
          have hnd68 := numC_c F ca sz N ((q : Int) + jpO F (ca + q))
          exact hret _ _ _ _ (zI (numC F ca sz N ((q : Int) + jpO F (ca + q)))) hS ⟨congrArg (fun x : Int => some (zV x)) (by unfold fiC; rw [if_neg (by omega), if_neg (by omega), if_neg (by rw [h39]; decide), if_pos h55]), rfl⟩ rfl dX5_firstNumber_71
      · refine lv_aload_n C.1 C.2.1 dX5_firstNumber_42 rfl (lv_at hl 1 rfl) ?_
        refine z_get C (v := .ref (ad 1)) hM.img rfl bi_wsX20 0 (by decide) zw_20_18 rfl rfl dX5_firstNumber_43 ?_
        refine lv_iload_n C.1 C.2.1 dX5_firstNumber_46 rfl (lv_at hl 3 rfl) ?_
        refine z_readS C (As := [.ref (ad 1), zN (ca + q)]) (rest := []) (c_X3_localAt l Z hM hB (k := ca + q) (by omega) (fun z => by have := hs2 z; omega)) ⟨⟨zw_23_11, zw_20_22, zw_23_9⟩, zd_X3_localAt⟩ zw_23_10 ⟨Nat.le_of_ble_eq_true rfl, Nat.le_of_ble_eq_true rfl⟩ ⟨rfl, rfl⟩ rfl hl.1 rfl (Nat.le_of_ble_eq_true rfl) dX5_firstNumber_47 ⟨Nat.zero_le _, Nat.zero_le _⟩ hS (fun locs hS => ?_)
        have hlol := loC_lt hB.1 (ca + q)
        exact hret _ _ _ _ (zI ((loC F (ca + q) : Nat) : Int)) hS ⟨congrArg (fun x : Int => some (zV x)) (by unfold fiC; rw [if_neg (by omega), if_neg (by omega), if_pos h39]), rfl⟩ rfl dX5_firstNumber_50
    · refine lv_aload_n C.1 C.2.1 dX5_firstNumber_29 rfl (lv_at hl 1 rfl) ?_
      refine lv_iload_n C.1 C.2.1 dX5_firstNumber_30 rfl (lv_at hl 3 rfl) ?_
      refine z_readS C (As := [.ref (ad 0), zN (ca + q)]) (rest := []) (c_X5_pushedLongLow l Z hM hB hP (k := ca + q) (by omega) (fun z => by have h3 := hs3 (by omega) (by omega) (by omega); rw [spM_3f (by omega)] at h3; omega) (fun z => hE5 z)) ⟨⟨zw_39_18, zw_20_6, zw_39_16⟩, zd_X5_pushedLongLow⟩ zw_39_17 ⟨Nat.le_of_ble_eq_true rfl, Nat.le_of_ble_eq_true rfl⟩ ⟨rfl, rfl⟩ rfl hl.1 rfl (Nat.le_of_ble_eq_true rfl) dX5_firstNumber_31 ⟨Nat.zero_le _, Nat.zero_le _⟩ hS (fun locs hS => ?_)
      exact hret _ _ _ _ (zI (plC F tb (ca + q))) hS ⟨congrArg (fun x : Int => some (zV x)) (by unfold fiC; rw [if_neg (by omega), if_pos (by omega)]), rfl⟩ rfl dX5_firstNumber_34
  · refine lv_aload_n C.1 C.2.1 dX5_firstNumber_16 rfl (lv_at hl 1 rfl) ?_
    refine lv_iload_n C.1 C.2.1 dX5_firstNumber_17 rfl (lv_at hl 3 rfl) ?_
    refine z_readS C (As := [.ref (ad 0), zN (ca + q)]) (rest := []) (c_X5_pushedInt l Z hM hB hP (k := ca + q) (by omega) (fun z => by have h3 := hs3 (by omega) (by omega) (by omega); rw [spM_3f (by omega)] at h3; omega) (fun z => hE3 z)) ⟨⟨zw_39_7, zw_20_6, zw_39_5⟩, zd_X5_pushedInt⟩ zw_39_6 ⟨Nat.le_of_ble_eq_true rfl, Nat.le_of_ble_eq_true rfl⟩ ⟨rfl, rfl⟩ rfl hl.1 rfl (Nat.le_of_ble_eq_true rfl) dX5_firstNumber_18 ⟨Nat.zero_le _, Nat.zero_le _⟩ hS (fun locs hS => ?_)
    exact hret _ _ _ _ (zI (piC F tb (ca + q))) hS ⟨congrArg (fun x : Int => some (zV x)) (by unfold fiC; rw [if_pos (by omega)]), rfl⟩ rfl dX5_firstNumber_21
