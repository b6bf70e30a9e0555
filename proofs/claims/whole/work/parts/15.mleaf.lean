/-! the model: methods that only read, the small ones -/
theorem bI_1 {b : Bool} (h : b = true) : (1 : Int) = bI b := by rw [h]; rfl
theorem nmC_pos {F : Nat → Nat} {fp ln i : Nat} (h : nmC F fp ln i ≠ 0) : i < ln := by
  unfold nmC at h
  split at h
  · assumption
  · exact absurd rfl h
theorem bI_0 {b : Bool} (h : b = false) : (0 : Int) = bI b := by rw [h]; rfl

set_option maxHeartbeats 4000000 in
set_option maxRecDepth 20000 in
theorem c_X12_octet (l : Launch) (Z : zT) {H : Heap} {o : Nat} {ad : Nat → Nat} {σ : mS} (hM : isM Z H o ad σ) {F : Nat → Nat} {n : Nat} (hB : mSrc σ F n) {t : Int} (k : Nat) (ht : t = (k : Int)) (hk : k < n) : zP l Z yX12_octet cX12_octet 2 (some .int) (rmk 1) [.ref o, zV t] H (zN (F k)) := by
  subst ht
  have hn := hB.2.2.2
  refine zM.introI (own := RX12) ⟨by decide, rfl⟩ (Nat.le_of_ble_eq_true rfl) ?_
  intro p e s m args below meth c Q ls hH C hl hret
  have hS : va_S (fun _ => False) s.heap H [] := by rw [hH]; exact va_S.rf
  have hl : lv_has ls 2 [(0, .ref o), (1, zN k)] := hl
  refine lv_aload_n C.1 C.2.1 dX12_octet_0 rfl (lv_at hl 0 rfl) ?_
  refine m_get C hM 7 (v := if σ.1 7 = 0 then .null else .ref (ad 0)) (by decide) zw_25_14 rfl rfl dX12_octet_1 ?_
  refine z_reV (m7 hB.2.2.1) ?_
  refine lv_iload_n C.1 C.2.1 dX12_octet_4 rfl (lv_at hl 1 rfl) ?_
  refine m_bld C hM k (t := ((k : Nat) : Int)) rfl (by omega) dX12_octet_5 ?_
  refine z_re (y := zI (sb (F k))) (hB.2.1 k hk) ?_
  refine lv_sipush (v := zI 255) C.1 C.2.1 dX12_octet_6 (by decide) ?_
  refine lv_iand C.1 C.2.1 dX12_octet_9 ?_
  refine z_re (y := zI ((F k : Nat) : Int)) (and255 (hB.1 k)) ?_
  exact hret _ _ _ _ (zI ((F k : Nat) : Int)) hS ⟨rfl, rfl⟩ rfl dX12_octet_10

set_option maxHeartbeats 4000000 in
set_option maxRecDepth 20000 in
theorem c_X12_two (l : Launch) (Z : zT) {H : Heap} {o : Nat} {ad : Nat → Nat} {σ : mS} (hM : isM Z H o ad σ) {F : Nat → Nat} {n : Nat} (hB : mSrc σ F n) {t : Int} (k : Nat) (ht : t = (k : Int)) (hk : k + 1 < n) : zP l Z yX12_two cX12_two 2 (some .int) (rmk 2) [.ref o, zV t] H (zN (U2 F k)) := by
  subst ht
  have hn := hB.2.2.2
  refine zM.introI (own := RX12) ⟨by decide, rfl⟩ (Nat.le_of_ble_eq_true rfl) ?_
  intro p e s m args below meth c Q ls hH C hl hret
  have hS : va_S (fun _ => False) s.heap H [] := by rw [hH]; exact va_S.rf
  have hl : lv_has ls 2 [(0, .ref o), (1, zN k)] := hl
  refine lv_aload_n C.1 C.2.1 dX12_two_0 rfl (lv_at hl 0 rfl) ?_
  refine lv_iload_n C.1 C.2.1 dX12_two_1 rfl (lv_at hl 1 rfl) ?_
  refine z_readV C (As := [zN k]) (rest := []) (c_X12_octet l Z hM hB k rfl (by omega)) hM.1 rfl ⟨⟨zw_27_0, zw_1_5, zw_26_21⟩, zd_X12_octet⟩ zw_26_22 zw_26_23 ⟨Nat.le_of_ble_eq_true rfl, Nat.le_of_ble_eq_true rfl⟩ ⟨rfl, rfl⟩ rfl hl.1 rfl (Nat.le_of_ble_eq_true rfl) dX12_two_2 ⟨Nat.zero_le _, Nat.zero_le _⟩ hS (fun locs hS => ?_)
  have := hB.1 k
  refine lv_bipush (v := zI 8) C.1 C.2.1 dX12_two_5 (by decide) ?_
  refine lv_ishl C.1 C.2.1 dX12_two_7 ?_
  refine z_re (y := zI ((2 ^ 8 * F k : Nat) : Int)) (shl8 (hB.1 k)) ?_
  refine lv_aload_n C.1 C.2.1 dX12_two_8 rfl (lv_at hl 0 rfl) ?_
  refine lv_iload_n C.1 C.2.1 dX12_two_9 rfl (lv_at hl 1 rfl) ?_
  refine lv_iconst (v := zI 1) C.1 C.2.1 dX12_two_10 (by decide) ?_
  refine y_iaddN C (a := k) (b := 1) dX12_two_11 ?_
  refine z_readV C (As := [zN (k + 1)]) (rest := [zN (2 ^ 8 * F k)]) (c_X12_octet l Z hM hB (k + 1) rfl (by omega)) hM.1 rfl ⟨⟨zw_27_0, zw_1_5, zw_26_21⟩, zd_X12_octet⟩ zw_26_22 zw_26_23 ⟨Nat.le_of_ble_eq_true rfl, Nat.le_of_ble_eq_true rfl⟩ ⟨rfl, rfl⟩ rfl hl.1 rfl (Nat.le_of_ble_eq_true rfl) dX12_two_12 ⟨Nat.zero_le _, Nat.zero_le _⟩ hS (fun locs hS => ?_)
  have := hB.1 (k + 1)
  refine lv_ior C.1 C.2.1 dX12_two_15 ?_
  refine z_re (y := zI ((U2 F k : Nat) : Int)) (or_U2 hB.1 k) ?_
  exact hret _ _ _ _ (zI ((U2 F k : Nat) : Int)) hS ⟨rfl, rfl⟩ rfl dX12_two_16

set_option maxHeartbeats 4000000 in
set_option maxRecDepth 20000 in
theorem c_X12_four (l : Launch) (Z : zT) {H : Heap} {o : Nat} {ad : Nat → Nat} {σ : mS} (hM : isM Z H o ad σ) {F : Nat → Nat} {n : Nat} (hB : mSrc σ F n) {t : Int} (k : Nat) (ht : t = (k : Int)) (hk : k + 3 < n) : zP l Z yX12_four cX12_four 2 (some .int) (rmk 3) [.ref o, zV t] H (zV (S4 F k)) := by
  subst ht
  have hn := hB.2.2.2
  refine zM.introI (own := RX12) ⟨by decide, rfl⟩ (Nat.le_of_ble_eq_true rfl) ?_
  intro p e s m args below meth c Q ls hH C hl hret
  have hS : va_S (fun _ => False) s.heap H [] := by rw [hH]; exact va_S.rf
  have hl : lv_has ls 2 [(0, .ref o), (1, zN k)] := hl
  refine lv_aload_n C.1 C.2.1 dX12_four_0 rfl (lv_at hl 0 rfl) ?_
  refine lv_iload_n C.1 C.2.1 dX12_four_1 rfl (lv_at hl 1 rfl) ?_
  refine z_readV C (As := [zN k]) (rest := []) (c_X12_two l Z hM hB k rfl (by omega)) hM.1 rfl ⟨⟨zw_27_11, zw_1_5, zw_27_8⟩, zd_X12_two⟩ zw_27_9 zw_27_10 ⟨Nat.le_of_ble_eq_true rfl, Nat.le_of_ble_eq_true rfl⟩ ⟨rfl, rfl⟩ rfl hl.1 rfl (Nat.le_of_ble_eq_true rfl) dX12_four_2 ⟨Nat.zero_le _, Nat.zero_le _⟩ hS (fun locs hS => ?_)
  have := U2_lt hB.1 k
  refine lv_bipush (v := zI 16) C.1 C.2.1 dX12_four_5 (by decide) ?_
  refine lv_ishl C.1 C.2.1 dX12_four_7 ?_
  refine z_re (y := zI ((2 ^ 16 * U2 F k : Nat) : Int)) (shl16 (U2_lt hB.1 k)) ?_
  refine lv_aload_n C.1 C.2.1 dX12_four_8 rfl (lv_at hl 0 rfl) ?_
  refine lv_iload_n C.1 C.2.1 dX12_four_9 rfl (lv_at hl 1 rfl) ?_
  refine lv_iconst (v := zI 2) C.1 C.2.1 dX12_four_10 (by decide) ?_
  refine y_iaddN C (a := k) (b := 2) dX12_four_11 ?_
  refine z_readV C (As := [zN (k + 2)]) (rest := [zN (2 ^ 16 * U2 F k)]) (c_X12_two l Z hM hB (k + 2) rfl (by omega)) hM.1 rfl ⟨⟨zw_27_11, zw_1_5, zw_27_8⟩, zd_X12_two⟩ zw_27_9 zw_27_10 ⟨Nat.le_of_ble_eq_true rfl, Nat.le_of_ble_eq_true rfl⟩ ⟨rfl, rfl⟩ rfl hl.1 rfl (Nat.le_of_ble_eq_true rfl) dX12_four_12 ⟨Nat.zero_le _, Nat.zero_le _⟩ hS (fun locs hS => ?_)
  have := U2_lt hB.1 (k + 2)
  refine lv_ior C.1 C.2.1 dX12_four_15 ?_
  refine z_re (y := zI ((U4 F k : Nat) : Int)) (or_U4 hB.1 k) ?_
  refine z_re (y := zI (S4 F k)) (zI_U4 F k) ?_
  exact hret _ _ _ _ (zI (S4 F k)) hS ⟨rfl, rfl⟩ rfl dX12_four_16

set_option maxHeartbeats 4000000 in
set_option maxRecDepth 20000 in
theorem c_X12_letter (l : Launch) (Z : zT) {H : Heap} {o : Nat} {ad : Nat → Nat} {σ : mS} (hM : isM Z H o ad σ) {F : Nat → Nat} {n : Nat} (hB : mSrc σ F n) {nm fp ln : Nat} (hN : mNm σ F n nm fp ln) {t : Int} (i : Nat) (ht : t = (i : Int)) (hi : i < 2147483648) : zP l Z yX12_letter cX12_letter 3 (some .int) (rmk 1) [.ref o, zN nm, zV t] H (zN (nmC F fp ln i)) := by
  subst ht
  have hn := hB.2.2.2
  obtain ⟨hn1, hn2, hn3, hn4, hn5, hn6⟩ := id hN
  refine zM.introI (own := RX12) ⟨by decide, rfl⟩ (Nat.le_of_ble_eq_true rfl) ?_
  intro p e s m args below meth c Q ls hH C hl hret
  have hS : va_S (fun _ => False) s.heap H [] := by rw [hH]; exact va_S.rf
  have hl : lv_has ls 3 [(0, .ref o), (1, zN nm), (2, zN i)] := hl
  refine lv_iload_n C.1 C.2.1 dX12_letter_0 rfl (lv_at hl 2 rfl) ?_
  refine lv_aload_n C.1 C.2.1 dX12_letter_1 rfl (lv_at hl 0 rfl) ?_
  refine m_get C hM 14 (v := .ref (ad 14)) (by decide) zw_5_1 rfl rfl dX12_letter_2 ?_
  refine lv_iload_n C.1 C.2.1 dX12_letter_5 rfl (lv_at hl 1 rfl) ?_
  refine m_ald C hM 14 (by decide) nm (t := ((nm : Nat) : Int)) rfl (by show _ < 502; omega) dX12_letter_6 ?_
  refine z_re (y := zI ((ln : Nat) : Int)) hn3 ?_
  refine y_icmp_ge (tgt := 26) C (a := ((i : Nat) : Int)) (b := ((ln : Nat) : Int)) dX12_letter_7 (by decide) (by omega) (fun h7 => ?_) (fun h7 => ?_)
  · refine lv_iconst (v := zI 0) C.1 C.2.1 dX12_letter_26 (by decide) ?_
    exact hret _ _ _ _ (zI 0) hS ⟨congrArg (fun x : Int => some (zV x)) (by unfold nmC; rw [if_neg (by omega)]; rfl), rfl⟩ rfl dX12_letter_27
  · refine lv_aload_n C.1 C.2.1 dX12_letter_10 rfl (lv_at hl 0 rfl) ?_
    refine m_get C hM 7 (v := if σ.1 7 = 0 then .null else .ref (ad 0)) (by decide) zw_25_14 rfl rfl dX12_letter_11 ?_
    refine z_reV (m7 hB.2.2.1) ?_
    refine lv_aload_n C.1 C.2.1 dX12_letter_14 rfl (lv_at hl 0 rfl) ?_
    refine m_get C hM 13 (v := .ref (ad 13)) (by decide) zw_5_0 rfl rfl dX12_letter_15 ?_
    refine lv_iload_n C.1 C.2.1 dX12_letter_18 rfl (lv_at hl 1 rfl) ?_
    refine m_ald C hM 13 (by decide) nm (t := ((nm : Nat) : Int)) rfl (by show _ < 502; omega) dX12_letter_19 ?_
    refine z_re (y := zI ((fp : Nat) : Int)) hn2 ?_
    refine lv_iload_n C.1 C.2.1 dX12_letter_20 rfl (lv_at hl 2 rfl) ?_
    refine y_iaddN C (a := fp) (b := i) dX12_letter_21 ?_
    refine m_bld C hM (fp + i) (t := ((fp + i : Nat) : Int)) rfl (by omega) dX12_letter_22 ?_
    refine z_re (y := zI (sb (F (fp + i)))) (hB.2.1 (fp + i) (by omega)) ?_
    refine lv_goto (tgt := 27) C.1 C.2.1 dX12_letter_23 (by decide) ?_
    exact hret _ _ _ _ (zI (sb (F (fp + i)))) hS ⟨congrArg (fun x : Int => some (zV x)) (by unfold nmC; rw [if_pos (by omega)]; exact sb_lo (hn6 i (by omega))), rfl⟩ rfl dX12_letter_27

set_option maxHeartbeats 4000000 in
set_option maxRecDepth 20000 in
theorem c_X12_typeAt (l : Launch) (Z : zT) {H : Heap} {o : Nat} {ad : Nat → Nat} {σ : mS} (hM : isM Z H o ad σ) {F : Nat → Nat} {n : Nat} (hB : mSrc σ F n) {nm fp ln : Nat} (hN : mNm σ F n nm fp ln) {t : Int} (i : Nat) (ht : t = (i : Int)) (hi : i < 2147483647) : zP l Z yX12_typeAt cX12_typeAt 3 (some .int) (rmk 2) [.ref o, zN nm, zV t] H (zN (tyAt F fp ln i)) := by
  subst ht
  have hn := hB.2.2.2
  obtain ⟨hn1, hn2, hn3, hn4, hn5, hn6⟩ := id hN
  refine zM.introI (own := RX12) ⟨by decide, rfl⟩ (Nat.le_of_ble_eq_true rfl) ?_
  intro p e s m args below meth c Q ls hH C hl hret
  have hS : va_S (fun _ => False) s.heap H [] := by rw [hH]; exact va_S.rf
  have hl : lv_has ls 3 [(0, .ref o), (1, zN nm), (2, zN i)] := hl
  refine lv_aload_n C.1 C.2.1 dX12_typeAt_0 rfl (lv_at hl 0 rfl) ?_
  refine lv_iload_n C.1 C.2.1 dX12_typeAt_1 rfl (lv_at hl 1 rfl) ?_
  refine lv_iload_n C.1 C.2.1 dX12_typeAt_2 rfl (lv_at hl 2 rfl) ?_
  refine z_readV C (As := [zN nm, zN i]) (rest := []) (c_X12_letter l Z hM hB hN i rfl (by omega)) hM.1 rfl ⟨⟨zw_30_2, zw_1_5, zw_29_23⟩, zd_X12_letter⟩ zw_30_0 zw_30_1 ⟨Nat.le_of_ble_eq_true rfl, Nat.le_of_ble_eq_true rfl⟩ ⟨rfl, rfl⟩ rfl hl.1 rfl (Nat.le_of_ble_eq_true rfl) dX12_typeAt_3 ⟨Nat.zero_le _, Nat.zero_le _⟩ hS (fun locs hS => ?_)
  have := nmC_lt hB.1 fp ln i
  refine lv_bipush (v := zI 73) C.1 C.2.1 dX12_typeAt_6 (by decide) ?_
  refine y_icmp_eq (tgt := 22) C (a := ((nmC F fp ln i : Nat) : Int)) (b := 73) dX12_typeAt_8 (by decide) (by omega) (fun h8 => ?_) (fun h8 => ?_)
  · refine lv_iconst (v := zI 1) C.1 C.2.1 dX12_typeAt_22 (by decide) ?_
    exact hret _ _ _ _ (zI 1) hS ⟨congrArg (fun x : Int => some (zV x)) (by unfold tyAt; (repeat' split) <;> omega), rfl⟩ rfl dX12_typeAt_23
  · refine lv_aload_n C.1 C.2.1 dX12_typeAt_11 rfl (lv_at hl 0 rfl) ?_
    refine lv_iload_n C.1 C.2.1 dX12_typeAt_12 rfl (lv_at hl 1 rfl) ?_
    refine lv_iload_n C.1 C.2.1 dX12_typeAt_13 rfl (lv_at hl 2 rfl) ?_
    refine z_readV C (As := [zN nm, zN i]) (rest := []) (c_X12_letter l Z hM hB hN i rfl (by omega)) hM.1 rfl ⟨⟨zw_30_2, zw_1_5, zw_29_23⟩, zd_X12_letter⟩ zw_30_0 zw_30_1 ⟨Nat.le_of_ble_eq_true rfl, Nat.le_of_ble_eq_true rfl⟩ ⟨rfl, rfl⟩ rfl hl.1 rfl (Nat.le_of_ble_eq_true rfl) dX12_typeAt_14 ⟨Nat.zero_le _, Nat.zero_le _⟩ hS (fun locs hS => ?_)
    have := nmC_lt hB.1 fp ln i
    refine lv_bipush (v := zI 74) C.1 C.2.1 dX12_typeAt_17 (by decide) ?_
    refine y_icmp_ne (tgt := 24) C (a := ((nmC F fp ln i : Nat) : Int)) (b := 74) dX12_typeAt_19 (by decide) (by omega) (fun h19 => ?_) (fun h19 => ?_)
    · refine lv_aload_n C.1 C.2.1 dX12_typeAt_24 rfl (lv_at hl 0 rfl) ?_
      refine lv_iload_n C.1 C.2.1 dX12_typeAt_25 rfl (lv_at hl 1 rfl) ?_
      refine lv_iload_n C.1 C.2.1 dX12_typeAt_26 rfl (lv_at hl 2 rfl) ?_
      refine z_readV C (As := [zN nm, zN i]) (rest := []) (c_X12_letter l Z hM hB hN i rfl (by omega)) hM.1 rfl ⟨⟨zw_30_2, zw_1_5, zw_29_23⟩, zd_X12_letter⟩ zw_30_0 zw_30_1 ⟨Nat.le_of_ble_eq_true rfl, Nat.le_of_ble_eq_true rfl⟩ ⟨rfl, rfl⟩ rfl hl.1 rfl (Nat.le_of_ble_eq_true rfl) dX12_typeAt_27 ⟨Nat.zero_le _, Nat.zero_le _⟩ hS (fun locs hS => ?_)
      have := nmC_lt hB.1 fp ln i
      refine lv_bipush (v := zI 91) C.1 C.2.1 dX12_typeAt_30 (by decide) ?_
      refine y_icmp_ne (tgt := 52) C (a := ((nmC F fp ln i : Nat) : Int)) (b := 91) dX12_typeAt_32 (by decide) (by omega) (fun h32 => ?_) (fun h32 => ?_)
      · refine lv_iconst (v := zI 0) C.1 C.2.1 dX12_typeAt_52 (by decide) ?_
        exact hret _ _ _ _ (zI 0) hS ⟨congrArg (fun x : Int => some (zV x)) (by unfold tyAt; (repeat' split) <;> omega), rfl⟩ rfl dX12_typeAt_53
      · refine lv_aload_n C.1 C.2.1 dX12_typeAt_35 rfl (lv_at hl 0 rfl) ?_
        refine lv_iload_n C.1 C.2.1 dX12_typeAt_36 rfl (lv_at hl 1 rfl) ?_
        refine lv_iload_n C.1 C.2.1 dX12_typeAt_37 rfl (lv_at hl 2 rfl) ?_
        refine lv_iconst (v := zI 1) C.1 C.2.1 dX12_typeAt_38 (by decide) ?_
        refine y_iaddN C (a := i) (b := 1) dX12_typeAt_39 ?_
        refine z_readV C (As := [zN nm, zN (i + 1)]) (rest := []) (c_X12_letter l Z hM hB hN (i + 1) rfl (by omega)) hM.1 rfl ⟨⟨zw_30_2, zw_1_5, zw_29_23⟩, zd_X12_letter⟩ zw_30_0 zw_30_1 ⟨Nat.le_of_ble_eq_true rfl, Nat.le_of_ble_eq_true rfl⟩ ⟨rfl, rfl⟩ rfl hl.1 rfl (Nat.le_of_ble_eq_true rfl) dX12_typeAt_40 ⟨Nat.zero_le _, Nat.zero_le _⟩ hS (fun locs hS => ?_)
        have := nmC_lt hB.1 fp ln (i + 1)
        refine lv_bipush (v := zI 73) C.1 C.2.1 dX12_typeAt_43 (by decide) ?_
        refine y_icmp_ne (tgt := 52) C (a := ((nmC F fp ln (i + 1) : Nat) : Int)) (b := 73) dX12_typeAt_45 (by decide) (by omega) (fun h45 => ?_) (fun h45 => ?_)
        · refine lv_iconst (v := zI 0) C.1 C.2.1 dX12_typeAt_52 (by decide) ?_
          exact hret _ _ _ _ (zI 0) hS ⟨congrArg (fun x : Int => some (zV x)) (by unfold tyAt; (repeat' split) <;> omega), rfl⟩ rfl dX12_typeAt_53
        · refine lv_iconst (v := zI 2) C.1 C.2.1 dX12_typeAt_48 (by decide) ?_
          refine lv_goto (tgt := 53) C.1 C.2.1 dX12_typeAt_49 (by decide) ?_
          exact hret _ _ _ _ (zI 2) hS ⟨congrArg (fun x : Int => some (zV x)) (by unfold tyAt; (repeat' split) <;> omega), rfl⟩ rfl dX12_typeAt_53
    · refine lv_iconst (v := zI 1) C.1 C.2.1 dX12_typeAt_22 (by decide) ?_
      exact hret _ _ _ _ (zI 1) hS ⟨congrArg (fun x : Int => some (zV x)) (by unfold tyAt; (repeat' split) <;> omega), rfl⟩ rfl dX12_typeAt_23

set_option maxHeartbeats 4000000 in
set_option maxRecDepth 20000 in
theorem c_X12_isType (l : Launch) (Z : zT) {H : Heap} {o : Nat} {ad : Nat → Nat} {σ : mS} (hM : isM Z H o ad σ) {F : Nat → Nat} {n : Nat} (hB : mSrc σ F n) {nm fp ln : Nat} (hN : mNm σ F n nm fp ln) : zP l Z yX12_isType cX12_isType 2 (some .boolean) (rmk 3) [.ref o, zN nm] H (zV (bI (isTy F fp ln))) := by
  have hn := hB.2.2.2
  obtain ⟨hn1, hn2, hn3, hn4, hn5, hn6⟩ := id hN
  refine zM.introI (own := RX12) ⟨by decide, rfl⟩ (Nat.le_of_ble_eq_true rfl) ?_
  intro p e s m args below meth c Q ls hH C hl hret
  have hS : va_S (fun _ => False) s.heap H [] := by rw [hH]; exact va_S.rf
  have hl : lv_has ls 2 [(0, .ref o), (1, zN nm)] := hl
  refine lv_aload_n C.1 C.2.1 dX12_isType_0 rfl (lv_at hl 0 rfl) ?_
  refine lv_iload_n C.1 C.2.1 dX12_isType_1 rfl (lv_at hl 1 rfl) ?_
  refine lv_iconst (v := zI 0) C.1 C.2.1 dX12_isType_2 (by decide) ?_
  refine z_readV C (As := [zN nm, zN 0]) (rest := []) (c_X12_typeAt l Z hM hB hN 0 rfl (by omega)) hM.1 rfl ⟨⟨zw_29_22, zw_1_5, zw_29_19⟩, zd_X12_typeAt⟩ zw_29_20 zw_29_21 ⟨Nat.le_of_ble_eq_true rfl, Nat.le_of_ble_eq_true rfl⟩ ⟨rfl, rfl⟩ rfl hl.1 rfl (Nat.le_of_ble_eq_true rfl) dX12_isType_3 ⟨Nat.zero_le _, Nat.zero_le _⟩ hS (fun locs hS => ?_)
  have := tyAt_le F fp ln 0
  refine y_if_le (tgt := 28) C (a := ((tyAt F fp ln 0 : Nat) : Int)) dX12_isType_6 (by decide) (by omega) (fun h6 => ?_) (fun h6 => ?_)
  · refine lv_iconst (v := zI 0) C.1 C.2.1 dX12_isType_28 (by decide) ?_
    exact hret _ _ _ _ (zI 0) hS ⟨congrArg (fun x : Int => some (zV x)) (bI_0 (decide_eq_false (by omega))), rfl⟩ rfl dX12_isType_29
  · refine lv_aload_n C.1 C.2.1 dX12_isType_9 rfl (lv_at hl 0 rfl) ?_
    refine lv_iload_n C.1 C.2.1 dX12_isType_10 rfl (lv_at hl 1 rfl) ?_
    refine lv_iconst (v := zI 0) C.1 C.2.1 dX12_isType_11 (by decide) ?_
    refine z_readV C (As := [zN nm, zN 0]) (rest := []) (c_X12_typeAt l Z hM hB hN 0 rfl (by omega)) hM.1 rfl ⟨⟨zw_29_22, zw_1_5, zw_29_19⟩, zd_X12_typeAt⟩ zw_29_20 zw_29_21 ⟨Nat.le_of_ble_eq_true rfl, Nat.le_of_ble_eq_true rfl⟩ ⟨rfl, rfl⟩ rfl hl.1 rfl (Nat.le_of_ble_eq_true rfl) dX12_isType_12 ⟨Nat.zero_le _, Nat.zero_le _⟩ hS (fun locs hS => ?_)
    have := tyAt_le F fp ln 0
    refine lv_aload_n C.1 C.2.1 dX12_isType_15 rfl (lv_at hl 0 rfl) ?_
    refine m_get C hM 14 (v := .ref (ad 14)) (by decide) zw_5_1 rfl rfl dX12_isType_16 ?_
    refine lv_iload_n C.1 C.2.1 dX12_isType_19 rfl (lv_at hl 1 rfl) ?_
    refine m_ald C hM 14 (by decide) nm (t := ((nm : Nat) : Int)) rfl (by show _ < 502; omega) dX12_isType_20 ?_
    refine z_re (y := zI ((ln : Nat) : Int)) hn3 ?_
    refine y_icmp_ne (tgt := 28) C (a := ((tyAt F fp ln 0 : Nat) : Int)) (b := ((ln : Nat) : Int)) dX12_isType_21 (by decide) (by omega) (fun h21 => ?_) (fun h21 => ?_)
    · refine lv_iconst (v := zI 0) C.1 C.2.1 dX12_isType_28 (by decide) ?_
      exact hret _ _ _ _ (zI 0) hS ⟨congrArg (fun x : Int => some (zV x)) (bI_0 (decide_eq_false (by omega))), rfl⟩ rfl dX12_isType_29
    · refine lv_iconst (v := zI 1) C.1 C.2.1 dX12_isType_24 (by decide) ?_
      refine lv_goto (tgt := 29) C.1 C.2.1 dX12_isType_25 (by decide) ?_
      exact hret _ _ _ _ (zI 1) hS ⟨congrArg (fun x : Int => some (zV x)) (bI_1 (decide_eq_true (by omega))), rfl⟩ rfl dX12_isType_29

set_option maxHeartbeats 4000000 in
set_option maxRecDepth 20000 in
theorem c_X12_parameterPlaces (l : Launch) (Z : zT) {H : Heap} {o : Nat} {ad : Nat → Nat} {σ : mS} (hM : isM Z H o ad σ) {F : Nat → Nat} {n : Nat} (hB : mSrc σ F n) {nm fp ln : Nat} (hN : mNm σ F n nm fp ln) : zP l Z yX12_parameterPlaces cX12_parameterPlaces 5 (some .int) (rmk 3) [.ref o, zN nm] H (zV (pp F fp ln)) := by
  have hn := hB.2.2.2
  obtain ⟨hn1, hn2, hn3, hn4, hn5, hn6⟩ := id hN
  refine zM.introI (own := RX12) ⟨by decide, rfl⟩ (Nat.le_of_ble_eq_true rfl) ?_
  intro p e s m args below meth c Q ls hH C hl hret
  have hS : va_S (fun _ => False) s.heap H [] := by rw [hH]; exact va_S.rf
  have hl : lv_has ls 5 [(0, .ref o), (1, zN nm)] := hl
  refine lv_aload_n C.1 C.2.1 dX12_parameterPlaces_0 rfl (lv_at hl 0 rfl) ?_
  refine lv_iload_n C.1 C.2.1 dX12_parameterPlaces_1 rfl (lv_at hl 1 rfl) ?_
  refine lv_iconst (v := zI 0) C.1 C.2.1 dX12_parameterPlaces_2 (by decide) ?_
  refine z_readV C (As := [zN nm, zN 0]) (rest := []) (c_X12_letter l Z hM hB hN 0 rfl (by omega)) hM.1 rfl ⟨⟨zw_30_2, zw_1_5, zw_29_23⟩, zd_X12_letter⟩ zw_30_0 zw_30_1 ⟨Nat.le_of_ble_eq_true rfl, Nat.le_of_ble_eq_true rfl⟩ ⟨rfl, rfl⟩ rfl hl.1 rfl (Nat.le_of_ble_eq_true rfl) dX12_parameterPlaces_3 ⟨Nat.zero_le _, Nat.zero_le _⟩ hS (fun locs hS => ?_)
  have := nmC_lt hB.1 fp ln 0
  refine lv_bipush (v := zI 40) C.1 C.2.1 dX12_parameterPlaces_6 (by decide) ?_
  refine y_icmp_eq (tgt := 13) C (a := ((nmC F fp ln 0 : Nat) : Int)) (b := 40) dX12_parameterPlaces_8 (by decide) (by omega) (fun h8 => ?_) (fun h8 => ?_)
  · refine lv_iconst (v := zI 1) C.1 C.2.1 dX12_parameterPlaces_13 (by decide) ?_
    refine lv_istore_n (lv' := [(2, zN 1), (0, .ref o), (1, zN nm)]) C.1 C.2.1 dX12_parameterPlaces_14 rfl hl (by decide) rfl (fun ls hl => ?_)
    refine lv_iconst (v := zI 0) C.1 C.2.1 dX12_parameterPlaces_15 (by decide) ?_
    refine lv_istore_n (lv' := [(3, zN 0), (2, zN 1), (0, .ref o), (1, zN nm)]) C.1 C.2.1 dX12_parameterPlaces_16 rfl hl (by decide) rfl (fun ls hl => ?_)
    have loop : ∀ (fu : Nat) (i q : Nat) (ls : Array Slot) (locs : List Loc), va_S (fun _ => False) s.heap H locs → (i ≤ ln) → (ln < fu + i) → (q ≤ 2 * i) → (ppL F fp ln fu i q = ppI F fp ln) → lv_has ls 5 [(2, zN i), (3, zN q), (0, .ref o), (1, zN nm)] → W p l e (rmk 3) s m args below meth c H locs 0 0 Q (F0 m 17 ls []) := by
      intro fu
      induction fu with
      | zero =>
        intro i q ls locs hS hi hf hq he hl
        omega
      | succ fu ih =>
        intro i q ls locs hS hi hf hq he hl
        refine lv_aload_n C.1 C.2.1 dX12_parameterPlaces_17 rfl (lv_at hl 2 rfl) ?_
        refine lv_iload_n C.1 C.2.1 dX12_parameterPlaces_18 rfl (lv_at hl 3 rfl) ?_
        refine lv_iload_n C.1 C.2.1 dX12_parameterPlaces_19 rfl (lv_at hl 0 rfl) ?_
        refine z_readV C (As := [zN nm, zN i]) (rest := []) (c_X12_typeAt l Z hM hB hN i rfl (by omega)) hM.1 rfl ⟨⟨zw_29_22, zw_1_5, zw_29_19⟩, zd_X12_typeAt⟩ zw_29_20 zw_29_21 ⟨Nat.le_of_ble_eq_true rfl, Nat.le_of_ble_eq_true rfl⟩ ⟨rfl, rfl⟩ rfl hl.1 rfl (Nat.le_of_ble_eq_true rfl) dX12_parameterPlaces_20 ⟨Nat.zero_le _, Nat.zero_le _⟩ hS (fun locs hS => ?_)
        have := tyAt_le F fp ln i
        refine y_if_le (tgt := 57) C (a := ((tyAt F fp ln i : Nat) : Int)) dX12_parameterPlaces_23 (by decide) (by omega) (fun h23 => ?_) (fun h23 => ?_)
        · have e0 : ppI F fp ln = (i, q) := by rw [← he]; unfold ppL; rw [if_neg (by omega)]
          refine lv_aload_n C.1 C.2.1 dX12_parameterPlaces_57 rfl (lv_at hl 2 rfl) ?_
          refine lv_iload_n C.1 C.2.1 dX12_parameterPlaces_58 rfl (lv_at hl 3 rfl) ?_
          refine lv_iload_n C.1 C.2.1 dX12_parameterPlaces_59 rfl (lv_at hl 0 rfl) ?_
          refine z_readV C (As := [zN nm, zN i]) (rest := []) (c_X12_letter l Z hM hB hN i rfl (by omega)) hM.1 rfl ⟨⟨zw_30_2, zw_1_5, zw_29_23⟩, zd_X12_letter⟩ zw_30_0 zw_30_1 ⟨Nat.le_of_ble_eq_true rfl, Nat.le_of_ble_eq_true rfl⟩ ⟨rfl, rfl⟩ rfl hl.1 rfl (Nat.le_of_ble_eq_true rfl) dX12_parameterPlaces_60 ⟨Nat.zero_le _, Nat.zero_le _⟩ hS (fun locs hS => ?_)
          have := nmC_lt hB.1 fp ln i
          refine lv_bipush (v := zI 41) C.1 C.2.1 dX12_parameterPlaces_63 (by decide) ?_
          refine y_icmp_eq (tgt := 70) C (a := ((nmC F fp ln i : Nat) : Int)) (b := 41) dX12_parameterPlaces_65 (by decide) (by omega) (fun h65 => ?_) (fun h65 => ?_)
          · refine lv_iinc (v := zI ((i + 1 : Nat) : Int)) (lv' := [(2, zN (i + 1)), (3, zN q), (0, .ref o), (1, zN nm)]) C.1 C.2.1 dX12_parameterPlaces_70 hl (k := 0) rfl (zI_add _ _) (by decide) rfl (fun ls hl => ?_)
            refine lv_aload_n C.1 C.2.1 dX12_parameterPlaces_73 rfl (lv_at hl 2 rfl) ?_
            refine lv_iload_n C.1 C.2.1 dX12_parameterPlaces_74 rfl (lv_at hl 3 rfl) ?_
            refine lv_iload_n C.1 C.2.1 dX12_parameterPlaces_75 rfl (lv_at hl 0 rfl) ?_
            refine z_readV C (As := [zN nm, zN (i + 1)]) (rest := []) (c_X12_letter l Z hM hB hN (i + 1) rfl (by omega)) hM.1 rfl ⟨⟨zw_30_2, zw_1_5, zw_29_23⟩, zd_X12_letter⟩ zw_30_0 zw_30_1 ⟨Nat.le_of_ble_eq_true rfl, Nat.le_of_ble_eq_true rfl⟩ ⟨rfl, rfl⟩ rfl hl.1 rfl (Nat.le_of_ble_eq_true rfl) dX12_parameterPlaces_76 ⟨Nat.zero_le _, Nat.zero_le _⟩ hS (fun locs hS => ?_)
            have := nmC_lt hB.1 fp ln (i + 1)
            refine lv_bipush (v := zI 86) C.1 C.2.1 dX12_parameterPlaces_79 (by decide) ?_
            refine y_icmp_ne (tgt := 88) C (a := ((nmC F fp ln (i + 1) : Nat) : Int)) (b := 86) dX12_parameterPlaces_81 (by decide) (by omega) (fun h81 => ?_) (fun h81 => ?_)
            · refine lv_aload_n C.1 C.2.1 dX12_parameterPlaces_88 rfl (lv_at hl 2 rfl) ?_
              refine lv_iload_n C.1 C.2.1 dX12_parameterPlaces_89 rfl (lv_at hl 3 rfl) ?_
              refine lv_iload_n C.1 C.2.1 dX12_parameterPlaces_90 rfl (lv_at hl 0 rfl) ?_
              refine z_readV C (As := [zN nm, zN (i + 1)]) (rest := []) (c_X12_typeAt l Z hM hB hN (i + 1) rfl (by omega)) hM.1 rfl ⟨⟨zw_29_22, zw_1_5, zw_29_19⟩, zd_X12_typeAt⟩ zw_29_20 zw_29_21 ⟨Nat.le_of_ble_eq_true rfl, Nat.le_of_ble_eq_true rfl⟩ ⟨rfl, rfl⟩ rfl hl.1 rfl (Nat.le_of_ble_eq_true rfl) dX12_parameterPlaces_91 ⟨Nat.zero_le _, Nat.zero_le _⟩ hS (fun locs hS => ?_)
              have := tyAt_le F fp ln (i + 1)
              refine lv_istore (lv' := [(4, zN (tyAt F fp ln (i + 1))), (2, zN (i + 1)), (3, zN q), (0, .ref o), (1, zN nm)]) C.1 C.2.1 dX12_parameterPlaces_94 hl (by decide) rfl (fun ls hl => ?_)
              refine lv_iload C.1 C.2.1 dX12_parameterPlaces_96 (lv_at hl 0 rfl) ?_
              refine y_if_le (tgt := 118) C (a := ((tyAt F fp ln (i + 1) : Nat) : Int)) dX12_parameterPlaces_98 (by decide) (by omega) (fun h98 => ?_) (fun h98 => ?_)
              · refine lv_iconst (v := zI (-1)) C.1 C.2.1 dX12_parameterPlaces_118 (by decide) ?_
                exact hret _ _ _ _ (zI (-1)) hS ⟨congrArg (fun x : Int => some (zV x)) (by unfold pp; simp only [e0, ppLast]; rw [if_neg (by (repeat' split) <;> omega)]), rfl⟩ rfl dX12_parameterPlaces_119
              · refine lv_iload_n C.1 C.2.1 dX12_parameterPlaces_101 rfl (lv_at hl 1 rfl) ?_
                refine lv_iload C.1 C.2.1 dX12_parameterPlaces_102 (lv_at hl 0 rfl) ?_
                refine y_iaddN C (a := i + 1) (b := tyAt F fp ln (i + 1)) dX12_parameterPlaces_104 ?_
                refine lv_aload_n C.1 C.2.1 dX12_parameterPlaces_105 rfl (lv_at hl 3 rfl) ?_
                refine m_get C hM 14 (v := .ref (ad 14)) (by decide) zw_5_1 rfl rfl dX12_parameterPlaces_106 ?_
                refine lv_iload_n C.1 C.2.1 dX12_parameterPlaces_109 rfl (lv_at hl 4 rfl) ?_
                refine m_ald C hM 14 (by decide) nm (t := ((nm : Nat) : Int)) rfl (by show _ < 502; omega) dX12_parameterPlaces_110 ?_
                refine z_re (y := zI ((ln : Nat) : Int)) hn3 ?_
                refine y_icmp_ne (tgt := 118) C (a := (((i + 1) + (tyAt F fp ln (i + 1)) : Nat) : Int)) (b := ((ln : Nat) : Int)) dX12_parameterPlaces_111 (by decide) (by omega) (fun h111 => ?_) (fun h111 => ?_)
                · refine lv_iconst (v := zI (-1)) C.1 C.2.1 dX12_parameterPlaces_118 (by decide) ?_
                  exact hret _ _ _ _ (zI (-1)) hS ⟨congrArg (fun x : Int => some (zV x)) (by unfold pp; simp only [e0, ppLast]; rw [if_neg (by (repeat' split) <;> omega)]), rfl⟩ rfl dX12_parameterPlaces_119
                · refine lv_iload_n C.1 C.2.1 dX12_parameterPlaces_114 rfl (lv_at hl 2 rfl) ?_
                  refine lv_goto (tgt := 119) C.1 C.2.1 dX12_parameterPlaces_115 (by decide) ?_
                  exact hret _ _ _ _ (zI ((q : Nat) : Int)) hS ⟨congrArg (fun x : Int => some (zV x)) (by unfold pp; simp only [e0, ppLast]; rw [if_pos (by (repeat' split) <;> omega)]), rfl⟩ rfl dX12_parameterPlaces_119
            · refine lv_iconst (v := zI 1) C.1 C.2.1 dX12_parameterPlaces_84 (by decide) ?_
              refine lv_goto (tgt := 94) C.1 C.2.1 dX12_parameterPlaces_85 (by decide) ?_
              refine lv_istore (lv' := [(4, zN 1), (2, zN (i + 1)), (3, zN q), (0, .ref o), (1, zN nm)]) C.1 C.2.1 dX12_parameterPlaces_94 hl (by decide) rfl (fun ls hl => ?_)
              refine lv_iload C.1 C.2.1 dX12_parameterPlaces_96 (lv_at hl 0 rfl) ?_
              refine lv_if_le (tgt := 118) C.1 C.2.1 dX12_parameterPlaces_98 (by decide) (fun hz => ?_) (fun hz => ?_)
              · exact absurd hz (by decide)
              refine lv_iload_n C.1 C.2.1 dX12_parameterPlaces_101 rfl (lv_at hl 1 rfl) ?_
              refine lv_iload C.1 C.2.1 dX12_parameterPlaces_102 (lv_at hl 0 rfl) ?_
              refine y_iaddN C (a := i + 1) (b := 1) dX12_parameterPlaces_104 ?_
              refine lv_aload_n C.1 C.2.1 dX12_parameterPlaces_105 rfl (lv_at hl 3 rfl) ?_
              refine m_get C hM 14 (v := .ref (ad 14)) (by decide) zw_5_1 rfl rfl dX12_parameterPlaces_106 ?_
              refine lv_iload_n C.1 C.2.1 dX12_parameterPlaces_109 rfl (lv_at hl 4 rfl) ?_
              refine m_ald C hM 14 (by decide) nm (t := ((nm : Nat) : Int)) rfl (by show _ < 502; omega) dX12_parameterPlaces_110 ?_
              refine z_re (y := zI ((ln : Nat) : Int)) hn3 ?_
              refine y_icmp_ne (tgt := 118) C (a := (((i + 1) + 1 : Nat) : Int)) (b := ((ln : Nat) : Int)) dX12_parameterPlaces_111 (by decide) (by omega) (fun h111 => ?_) (fun h111 => ?_)
              · refine lv_iconst (v := zI (-1)) C.1 C.2.1 dX12_parameterPlaces_118 (by decide) ?_
                exact hret _ _ _ _ (zI (-1)) hS ⟨congrArg (fun x : Int => some (zV x)) (by unfold pp; simp only [e0, ppLast]; rw [if_neg (by (repeat' split) <;> omega)]), rfl⟩ rfl dX12_parameterPlaces_119
              · refine lv_iload_n C.1 C.2.1 dX12_parameterPlaces_114 rfl (lv_at hl 2 rfl) ?_
                refine lv_goto (tgt := 119) C.1 C.2.1 dX12_parameterPlaces_115 (by decide) ?_
                exact hret _ _ _ _ (zI ((q : Nat) : Int)) hS ⟨congrArg (fun x : Int => some (zV x)) (by unfold pp; simp only [e0, ppLast]; rw [if_pos (by (repeat' split) <;> omega)]), rfl⟩ rfl dX12_parameterPlaces_119
          · refine lv_iconst (v := zI (-1)) C.1 C.2.1 dX12_parameterPlaces_68 (by decide) ?_
            exact hret _ _ _ _ (zI (-1)) hS ⟨congrArg (fun x : Int => some (zV x)) (by unfold pp; simp only [e0, ppLast]; rw [if_neg (by (repeat' split) <;> omega)]), rfl⟩ rfl dX12_parameterPlaces_69
        · refine lv_iload_n C.1 C.2.1 dX12_parameterPlaces_26 rfl (lv_at hl 1 rfl) ?_
          refine lv_aload_n C.1 C.2.1 dX12_parameterPlaces_27 rfl (lv_at hl 2 rfl) ?_
          refine lv_iload_n C.1 C.2.1 dX12_parameterPlaces_28 rfl (lv_at hl 3 rfl) ?_
          refine lv_iload_n C.1 C.2.1 dX12_parameterPlaces_29 rfl (lv_at hl 0 rfl) ?_
          refine z_readV C (As := [zN nm, zN i]) (rest := [zN q]) (c_X12_letter l Z hM hB hN i rfl (by omega)) hM.1 rfl ⟨⟨zw_30_2, zw_1_5, zw_29_23⟩, zd_X12_letter⟩ zw_30_0 zw_30_1 ⟨Nat.le_of_ble_eq_true rfl, Nat.le_of_ble_eq_true rfl⟩ ⟨rfl, rfl⟩ rfl hl.1 rfl (Nat.le_of_ble_eq_true rfl) dX12_parameterPlaces_30 ⟨Nat.zero_le _, Nat.zero_le _⟩ hS (fun locs hS => ?_)
          have := nmC_lt hB.1 fp ln i
          refine lv_bipush (v := zI 74) C.1 C.2.1 dX12_parameterPlaces_33 (by decide) ?_
          refine y_icmp_ne (tgt := 42) C (a := ((nmC F fp ln i : Nat) : Int)) (b := 74) dX12_parameterPlaces_35 (by decide) (by omega) (fun h35 => ?_) (fun h35 => ?_)
          · refine lv_iconst (v := zI 1) C.1 C.2.1 dX12_parameterPlaces_42 (by decide) ?_
            refine y_iaddN C (a := q) (b := 1) dX12_parameterPlaces_43 ?_
            refine lv_istore_n (lv' := [(3, zN (q + 1)), (2, zN i), (0, .ref o), (1, zN nm)]) C.1 C.2.1 dX12_parameterPlaces_44 rfl hl (by decide) rfl (fun ls hl => ?_)
            refine lv_iload_n C.1 C.2.1 dX12_parameterPlaces_45 rfl (lv_at hl 1 rfl) ?_
            refine lv_aload_n C.1 C.2.1 dX12_parameterPlaces_46 rfl (lv_at hl 2 rfl) ?_
            refine lv_iload_n C.1 C.2.1 dX12_parameterPlaces_47 rfl (lv_at hl 3 rfl) ?_
            refine lv_iload_n C.1 C.2.1 dX12_parameterPlaces_48 rfl (lv_at hl 1 rfl) ?_
            refine z_readV C (As := [zN nm, zN i]) (rest := [zN i]) (c_X12_typeAt l Z hM hB hN i rfl (by omega)) hM.1 rfl ⟨⟨zw_29_22, zw_1_5, zw_29_19⟩, zd_X12_typeAt⟩ zw_29_20 zw_29_21 ⟨Nat.le_of_ble_eq_true rfl, Nat.le_of_ble_eq_true rfl⟩ ⟨rfl, rfl⟩ rfl hl.1 rfl (Nat.le_of_ble_eq_true rfl) dX12_parameterPlaces_49 ⟨Nat.zero_le _, Nat.zero_le _⟩ hS (fun locs hS => ?_)
            have := tyAt_le F fp ln i
            refine y_iaddN C (a := i) (b := tyAt F fp ln i) dX12_parameterPlaces_52 ?_
            refine lv_istore_n (lv' := [(2, zN (i + (tyAt F fp ln i))), (3, zN (q + 1)), (0, .ref o), (1, zN nm)]) C.1 C.2.1 dX12_parameterPlaces_53 rfl hl (by decide) rfl (fun ls hl => ?_)
            refine lv_goto (tgt := 17) C.1 C.2.1 dX12_parameterPlaces_54 (by decide) ?_
            exact ih (i + (tyAt F fp ln i)) (q + 1) ls locs hS (by have := tyAt_in (F := F) (fp := fp) (ln := ln) (i := i) (by omega); omega) (by omega) (by omega) (by rw [← he]; conv => rhs; unfold ppL; rw [if_pos (by omega)]; rw [if_neg (by omega)]) hl
          · refine lv_iconst (v := zI 2) C.1 C.2.1 dX12_parameterPlaces_38 (by decide) ?_
            refine lv_goto (tgt := 43) C.1 C.2.1 dX12_parameterPlaces_39 (by decide) ?_
            refine y_iaddN C (a := q) (b := 2) dX12_parameterPlaces_43 ?_
            refine lv_istore_n (lv' := [(3, zN (q + 2)), (2, zN i), (0, .ref o), (1, zN nm)]) C.1 C.2.1 dX12_parameterPlaces_44 rfl hl (by decide) rfl (fun ls hl => ?_)
            refine lv_iload_n C.1 C.2.1 dX12_parameterPlaces_45 rfl (lv_at hl 1 rfl) ?_
            refine lv_aload_n C.1 C.2.1 dX12_parameterPlaces_46 rfl (lv_at hl 2 rfl) ?_
            refine lv_iload_n C.1 C.2.1 dX12_parameterPlaces_47 rfl (lv_at hl 3 rfl) ?_
            refine lv_iload_n C.1 C.2.1 dX12_parameterPlaces_48 rfl (lv_at hl 1 rfl) ?_
            refine z_readV C (As := [zN nm, zN i]) (rest := [zN i]) (c_X12_typeAt l Z hM hB hN i rfl (by omega)) hM.1 rfl ⟨⟨zw_29_22, zw_1_5, zw_29_19⟩, zd_X12_typeAt⟩ zw_29_20 zw_29_21 ⟨Nat.le_of_ble_eq_true rfl, Nat.le_of_ble_eq_true rfl⟩ ⟨rfl, rfl⟩ rfl hl.1 rfl (Nat.le_of_ble_eq_true rfl) dX12_parameterPlaces_49 ⟨Nat.zero_le _, Nat.zero_le _⟩ hS (fun locs hS => ?_)
            have := tyAt_le F fp ln i
            refine y_iaddN C (a := i) (b := tyAt F fp ln i) dX12_parameterPlaces_52 ?_
            refine lv_istore_n (lv' := [(2, zN (i + (tyAt F fp ln i))), (3, zN (q + 2)), (0, .ref o), (1, zN nm)]) C.1 C.2.1 dX12_parameterPlaces_53 rfl hl (by decide) rfl (fun ls hl => ?_)
            refine lv_goto (tgt := 17) C.1 C.2.1 dX12_parameterPlaces_54 (by decide) ?_
            exact ih (i + (tyAt F fp ln i)) (q + 2) ls locs hS (by have := tyAt_in (F := F) (fp := fp) (ln := ln) (i := i) (by omega); omega) (by omega) (by omega) (by rw [← he]; conv => rhs; unfold ppL; rw [if_pos (by omega)]; rw [if_pos (by omega)]) hl
    exact loop (ln + 1) 1 0 ls locs hS (by have := nmC_pos (F := F) (fp := fp) (ln := ln) (i := 0) (by omega); omega) (by omega) (by omega) rfl (lv_sub hl [1, 0, 2, 3] rfl)
  · refine lv_iconst (v := zI (-1)) C.1 C.2.1 dX12_parameterPlaces_11 (by decide) ?_
    exact hret _ _ _ _ (zI (-1)) hS ⟨congrArg (fun x : Int => some (zV x)) (by unfold pp; rw [if_neg (by omega)]), rfl⟩ rfl dX12_parameterPlaces_12
