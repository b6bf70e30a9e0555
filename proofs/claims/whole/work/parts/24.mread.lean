/-! the model: isEntry, isSame, isText -/
theorem mLay.tag {σ : mS} {F : Nat → Nat} {n cl nf nm fa last : Nat} {tb mt : Nat → Nat} (h : mLay σ F n tb cl nf nm mt fa last) {k : Nat} (hk : k < 502) : σ.2.1 11 k = zI (tg F tb k : Int) := by
  obtain ⟨-, -, -, ⟨k0, hP⟩, -⟩ := h
  unfold tg
  rcases hP k hk with ⟨g1, g2⟩ | ⟨g1, -, g3⟩
  · rw [if_pos g1]; exact g2
  · rw [if_neg g1]; exact g3.2.1
theorem mLay.ent {σ : mS} {F : Nat → Nat} {n cl nf nm fa last : Nat} {tb mt : Nat → Nat} (h : mLay σ F n tb cl nf nm mt fa last) {k : Nat} (hk : k < 502) (ht : tg F tb k ≠ 0) : tb k ≠ 0 ∧ F (tb k) = tg F tb k ∧ ent σ F n k (tb k) := by
  obtain ⟨-, -, -, ⟨k0, hP⟩, -⟩ := h
  unfold tg at *
  rcases hP k hk with ⟨g1, -⟩ | ⟨g1, -, g3⟩
  · rw [if_pos g1] at ht; exact absurd rfl ht
  · rw [if_neg g1]; exact ⟨g1, rfl, g3⟩
theorem isE_t {F tb : Nat → Nat} {pc k t : Nat} (h : isE F tb pc k t = true) : 1 ≤ k ∧ k < pc ∧ tg F tb k = t := of_decide_eq_true h
theorem mLay.nm {σ : mS} {F : Nat → Nat} {n cl nf nm fa last : Nat} {tb mt : Nat → Nat} (h : mLay σ F n tb cl nf nm mt fa last) {k : Nat} (hk : isE F tb (U2 F 8) k 1 = true) : mNm σ F n k (nP tb k) (nL F tb k) := by
  obtain ⟨h1, h2, h3⟩ := isE_t hk
  have h8 := h.2.1
  obtain ⟨g1, g2, g3⟩ := h.ent (show k < 502 by omega) (by omega)
  obtain ⟨-, -, -, g4, -⟩ := g3
  obtain ⟨e1, e2, e3, e4, e5, e6⟩ := g4 (by omega)
  exact ⟨by omega, e1, e2, by show tb k + 3 + U2 F (tb k + 1) ≤ n; omega, e5, fun i hi => by have := (e6 i hi).2; show F (tb k + 3 + i) < 128; omega⟩

set_option maxHeartbeats 4000000 in
set_option maxRecDepth 20000 in
theorem c_X12_isEntry (l : Launch) (Z : zT) {H : Heap} {o : Nat} {ad : Nat → Nat} {σ : mS} (hM : isM Z H o ad σ) {F : Nat → Nat} {n : Nat} (hB : mSrc σ F n) {cl nf nm fa last : Nat} {tb mt : Nat → Nat} (hL : mLay σ F n tb cl nf nm mt fa last) {t : Int} (k tt : Nat) (ht : t = (k : Int)) (hk : k < 65536) (htt : tt < 256) : zP l Z yX12_isEntry cX12_isEntry 3 (some .boolean) (rmk 1) [.ref o, zV t, zN tt] H (zV (bI (isE F tb (U2 F 8) k tt))) := by
  subst ht
  have hpc := hL.2.1
  have h11 := fun h => hL.tag (k := k) h
  have htg : tg F tb k < 256 := by unfold tg; split; decide; exact hB.1 _
  refine zM.introI (own := RX12) ⟨by decide, rfl⟩ (Nat.le_of_ble_eq_true rfl) ?_
  intro p e s m args below meth c Q ls hH C hl hret
  have hS : va_S (fun _ => False) s.heap H [] := by rw [hH]; exact va_S.rf
  have hl : lv_has ls 3 [(0, .ref o), (1, zN k), (2, zN tt)] := hl
  refine lv_iload_n C.1 C.2.1 dX12_isEntry_0 rfl (lv_at hl 1 rfl) ?_
  refine lv_iconst (v := zI 1) C.1 C.2.1 dX12_isEntry_1 (by decide) ?_
  refine y_icmp_lt (tgt := 27) C (a := ((k : Nat) : Int)) (b := 1) dX12_isEntry_2 (by decide) (by omega) (fun h2 => ?_) (fun h2 => ?_)
  · refine lv_iconst (v := zI 0) C.1 C.2.1 dX12_isEntry_27 (by decide) ?_
    exact hret _ _ _ _ (zI 0) hS ⟨congrArg (fun x : Int => some (zV x)) (bI_0 (decide_eq_false (by omega))), rfl⟩ rfl dX12_isEntry_28
  · refine lv_iload_n C.1 C.2.1 dX12_isEntry_5 rfl (lv_at hl 1 rfl) ?_
    refine lv_aload_n C.1 C.2.1 dX12_isEntry_6 rfl (lv_at hl 0 rfl) ?_
    refine m_get C hM 10 (v := .int (σ.1 10)) (by decide) zw_26_9 rfl rfl dX12_isEntry_7 ?_
    refine z_re (y := zI ((U2 F 8 : Nat) : Int)) hL.1 ?_
    refine y_icmp_ge (tgt := 27) C (a := ((k : Nat) : Int)) (b := ((U2 F 8 : Nat) : Int)) dX12_isEntry_10 (by decide) (by omega) (fun h10 => ?_) (fun h10 => ?_)
    · refine lv_iconst (v := zI 0) C.1 C.2.1 dX12_isEntry_27 (by decide) ?_
      exact hret _ _ _ _ (zI 0) hS ⟨congrArg (fun x : Int => some (zV x)) (bI_0 (decide_eq_false (by omega))), rfl⟩ rfl dX12_isEntry_28
    · refine lv_aload_n C.1 C.2.1 dX12_isEntry_13 rfl (lv_at hl 0 rfl) ?_
      refine m_get C hM 11 (v := .ref (ad 11)) (by decide) zw_4_22 rfl rfl dX12_isEntry_14 ?_
      refine lv_iload_n C.1 C.2.1 dX12_isEntry_17 rfl (lv_at hl 1 rfl) ?_
      refine m_ald C hM 11 (by decide) k (t := ((k : Nat) : Int)) rfl (by show _ < 502; omega) dX12_isEntry_18 ?_
      refine z_re (y := zI ((tg F tb k : Nat) : Int)) (h11 (by omega)) ?_
      refine lv_iload_n C.1 C.2.1 dX12_isEntry_19 rfl (lv_at hl 2 rfl) ?_
      refine y_icmp_ne (tgt := 27) C (a := ((tg F tb k : Nat) : Int)) (b := ((tt : Nat) : Int)) dX12_isEntry_20 (by decide) (by omega) (fun h20 => ?_) (fun h20 => ?_)
      · refine lv_iconst (v := zI 0) C.1 C.2.1 dX12_isEntry_27 (by decide) ?_
        exact hret _ _ _ _ (zI 0) hS ⟨congrArg (fun x : Int => some (zV x)) (bI_0 (decide_eq_false (by omega))), rfl⟩ rfl dX12_isEntry_28
      · refine lv_iconst (v := zI 1) C.1 C.2.1 dX12_isEntry_23 (by decide) ?_
        refine lv_goto (tgt := 28) C.1 C.2.1 dX12_isEntry_24 (by decide) ?_
        exact hret _ _ _ _ (zI 1) hS ⟨congrArg (fun x : Int => some (zV x)) (bI_1 (decide_eq_true (by omega))), rfl⟩ rfl dX12_isEntry_28

set_option maxHeartbeats 4000000 in
set_option maxRecDepth 20000 in
theorem c_X12_isSame (l : Launch) (Z : zT) {H : Heap} {o : Nat} {ad : Nat → Nat} {σ : mS} (hM : isM Z H o ad σ) {F : Nat → Nat} {n : Nat} (hB : mSrc σ F n) {nm fp ln n2 gp gl : Nat} (hN : mNm σ F n nm fp ln) (hN2 : mNm σ F n n2 gp gl) : zP l Z yX12_isSame cX12_isSame 4 (some .boolean) (rmk 2) [.ref o, zN nm, zN n2] H (zV (bI (sameN F fp ln gp gl))) := by
  have hn := hB.2.2.2
  obtain ⟨hn1, hn2, hn3, hn4, hn5, hn6⟩ := id hN
  obtain ⟨hm1, hm2, hm3, hm4, hm5, hm6⟩ := id hN2
  refine zM.introI (own := RX12) ⟨by decide, rfl⟩ (Nat.le_of_ble_eq_true rfl) ?_
  intro p e s m args below meth c Q ls hH C hl hret
  have hS : va_S (fun _ => False) s.heap H [] := by rw [hH]; exact va_S.rf
  have hl : lv_has ls 4 [(0, .ref o), (1, zN nm), (2, zN n2)] := hl
  refine lv_aload_n C.1 C.2.1 dX12_isSame_0 rfl (lv_at hl 0 rfl) ?_
  refine m_get C hM 14 (v := .ref (ad 14)) (by decide) zw_5_1 rfl rfl dX12_isSame_1 ?_
  refine lv_iload_n C.1 C.2.1 dX12_isSame_4 rfl (lv_at hl 1 rfl) ?_
  refine m_ald C hM 14 (by decide) nm (t := ((nm : Nat) : Int)) rfl (by show _ < 502; omega) dX12_isSame_5 ?_
  refine z_re (y := zI ((ln : Nat) : Int)) hn3 ?_
  refine lv_aload_n C.1 C.2.1 dX12_isSame_6 rfl (lv_at hl 0 rfl) ?_
  refine m_get C hM 14 (v := .ref (ad 14)) (by decide) zw_5_1 rfl rfl dX12_isSame_7 ?_
  refine lv_iload_n C.1 C.2.1 dX12_isSame_10 rfl (lv_at hl 2 rfl) ?_
  refine m_ald C hM 14 (by decide) n2 (t := ((n2 : Nat) : Int)) rfl (by show _ < 502; omega) dX12_isSame_11 ?_
  refine z_re (y := zI ((gl : Nat) : Int)) hm3 ?_
  refine y_icmp_eq (tgt := 17) C (a := ((ln : Nat) : Int)) (b := ((gl : Nat) : Int)) dX12_isSame_12 (by decide) (by omega) (fun h12 => ?_) (fun h12 => ?_)
  · refine lv_iconst (v := zI 0) C.1 C.2.1 dX12_isSame_17 (by decide) ?_
    refine lv_istore_n (lv' := [(3, zN 0), (0, .ref o), (1, zN nm), (2, zN n2)]) C.1 C.2.1 dX12_isSame_18 rfl hl (by decide) rfl (fun ls hl => ?_)
    have loop : ∀ (fu : Nat) (i : Nat) (ls : Array Slot) (locs : List Loc), va_S (fun _ => False) s.heap H locs → (i + fu = ln + 1 ∧ i ≤ ln) → (∀ j, j < i → F (fp + j) = F (gp + j)) → lv_has ls 4 [(3, zN i), (0, .ref o), (1, zN nm), (2, zN n2)] → W p l e (rmk 2) s m args below meth c H locs 0 0 Q (F0 m 19 ls []) := by
      intro fu
      induction fu with
      | zero =>
        intro i ls locs hS hi he hl
        omega
      | succ fu ih =>
        intro i ls locs hS hi he hl
        refine lv_iload_n C.1 C.2.1 dX12_isSame_19 rfl (lv_at hl 0 rfl) ?_
        refine lv_aload_n C.1 C.2.1 dX12_isSame_20 rfl (lv_at hl 1 rfl) ?_
        refine m_get C hM 14 (v := .ref (ad 14)) (by decide) zw_5_1 rfl rfl dX12_isSame_21 ?_
        refine lv_iload_n C.1 C.2.1 dX12_isSame_24 rfl (lv_at hl 2 rfl) ?_
        refine m_ald C hM 14 (by decide) nm (t := ((nm : Nat) : Int)) rfl (by show _ < 502; omega) dX12_isSame_25 ?_
        refine z_re (y := zI ((ln : Nat) : Int)) hn3 ?_
        refine y_icmp_ge (tgt := 52) C (a := ((i : Nat) : Int)) (b := ((ln : Nat) : Int)) dX12_isSame_26 (by decide) (by omega) (fun h26 => ?_) (fun h26 => ?_)
        · refine lv_iconst (v := zI 1) C.1 C.2.1 dX12_isSame_52 (by decide) ?_
          exact hret _ _ _ _ (zI 1) hS ⟨congrArg (fun x : Int => some (zV x)) (bI_1 (decide_eq_true ⟨by omega, fun j hj => he j (by omega)⟩)), rfl⟩ rfl dX12_isSame_53
        · refine lv_aload_n C.1 C.2.1 dX12_isSame_29 rfl (lv_at hl 1 rfl) ?_
          refine lv_iload_n C.1 C.2.1 dX12_isSame_30 rfl (lv_at hl 2 rfl) ?_
          refine lv_iload_n C.1 C.2.1 dX12_isSame_31 rfl (lv_at hl 0 rfl) ?_
          refine z_readV C (As := [zN nm, zN i]) (rest := []) (c_X12_letter l Z hM hB hN i rfl (by omega)) hM.1 rfl ⟨⟨zw_30_2, zw_1_5, zw_29_23⟩, zd_X12_letter⟩ zw_30_0 zw_30_1 ⟨Nat.le_of_ble_eq_true rfl, Nat.le_of_ble_eq_true rfl⟩ ⟨rfl, rfl⟩ rfl hl.1 rfl (Nat.le_of_ble_eq_true rfl) dX12_isSame_32 ⟨Nat.zero_le _, Nat.zero_le _⟩ hS (fun locs hS => ?_)
          have := nmC_lt hB.1 fp ln i
          refine lv_aload_n C.1 C.2.1 dX12_isSame_35 rfl (lv_at hl 1 rfl) ?_
          refine lv_iload_n C.1 C.2.1 dX12_isSame_36 rfl (lv_at hl 3 rfl) ?_
          refine lv_iload_n C.1 C.2.1 dX12_isSame_37 rfl (lv_at hl 0 rfl) ?_
          refine z_readV C (As := [zN n2, zN i]) (rest := [zN (nmC F fp ln i)]) (c_X12_letter l Z hM hB hN2 i rfl (by omega)) hM.1 rfl ⟨⟨zw_30_2, zw_1_5, zw_29_23⟩, zd_X12_letter⟩ zw_30_0 zw_30_1 ⟨Nat.le_of_ble_eq_true rfl, Nat.le_of_ble_eq_true rfl⟩ ⟨rfl, rfl⟩ rfl hl.1 rfl (Nat.le_of_ble_eq_true rfl) dX12_isSame_38 ⟨Nat.zero_le _, Nat.zero_le _⟩ hS (fun locs hS => ?_)
          have := nmC_lt hB.1 gp gl i
          refine y_icmp_eq (tgt := 46) C (a := ((nmC F fp ln i : Nat) : Int)) (b := ((nmC F gp gl i : Nat) : Int)) dX12_isSame_41 (by decide) (by omega) (fun h41 => ?_) (fun h41 => ?_)
          · refine lv_iinc (v := zI ((i + 1 : Nat) : Int)) (lv' := [(3, zN (i + 1)), (0, .ref o), (1, zN nm), (2, zN n2)]) C.1 C.2.1 dX12_isSame_46 hl (k := 0) rfl (zI_add _ _) (by decide) rfl (fun ls hl => ?_)
            refine lv_goto (tgt := 19) C.1 C.2.1 dX12_isSame_49 (by decide) ?_
            exact ih (i + 1) ls _ hS (by omega) (lt_s he (by unfold nmC at h41; rw [if_pos (by omega), if_pos (by omega)] at h41; omega)) hl
          · refine lv_iconst (v := zI 0) C.1 C.2.1 dX12_isSame_44 (by decide) ?_
            exact hret _ _ _ _ (zI 0) hS ⟨congrArg (fun x : Int => some (zV x)) (bI_0 (decide_eq_false (fun z => by have z2 := z.2 i (by omega); unfold nmC at h41; rw [if_pos (by omega), if_pos (by omega)] at h41; omega))), rfl⟩ rfl dX12_isSame_45
    exact loop (ln + 1) 0 ls _ hS (by omega) (fun j h => absurd h (by omega)) hl
  · refine lv_iconst (v := zI 0) C.1 C.2.1 dX12_isSame_15 (by decide) ?_
    exact hret _ _ _ _ (zI 0) hS ⟨congrArg (fun x : Int => some (zV x)) (bI_0 (decide_eq_false (fun z => absurd z.1 (by omega)))), rfl⟩ rfl dX12_isSame_16

set_option maxHeartbeats 4000000 in
set_option maxRecDepth 20000 in
theorem c_X12_isText (l : Launch) (Z : zT) {H : Heap} {o : Nat} {ad : Nat → Nat} {σ : mS} (hM : isM Z H o ad σ) {F : Nat → Nat} {n : Nat} (hB : mSrc σ F n) {nm fp ln w : Nat} (hN : mNm σ F n nm fp ln) (hw : w < 5) : zP l Z yX12_isText cX12_isText 4 (some .boolean) (rmk 5) [.ref o, zN nm, .ref (Z.2.2.1 w)] H (zV (bI (isTx F fp ln (tx w)))) := by
  have hn := hB.2.2.2
  obtain ⟨hn1, hn2, hn3, hn4, hn5, hn6⟩ := id hN
  have hw1 : zSL.getD w 0 ≤ 11 := (tx_len ⟨w, hw⟩).1
  have hw2 : zSL.getD w 0 = (tx w).length := (tx_len ⟨w, hw⟩).2
  have hw3 : ∀ i, i < zSL.getD w 0 → (tx w).getD i 0 < 128 := fun i hi => (tx_b ⟨w, hw⟩ ⟨i, by omega⟩ hi).2
  refine zM.introI (own := RX12) ⟨by decide, rfl⟩ (Nat.le_of_ble_eq_true rfl) ?_
  intro p e s m args below meth c Q ls hH C hl hret
  have hS : va_S (fun _ => False) s.heap H [] := by rw [hH]; exact va_S.rf
  have hl : lv_has ls 4 [(0, .ref o), (1, zN nm), (2, .ref (Z.2.2.1 w))] := hl
  refine lv_aload_n C.1 C.2.1 dX12_isText_0 rfl (lv_at hl 0 rfl) ?_
  refine m_get C hM 14 (v := .ref (ad 14)) (by decide) zw_5_1 rfl rfl dX12_isText_1 ?_
  refine lv_iload_n C.1 C.2.1 dX12_isText_4 rfl (lv_at hl 1 rfl) ?_
  refine m_ald C hM 14 (by decide) nm (t := ((nm : Nat) : Int)) rfl (by show _ < 502; omega) dX12_isText_5 ?_
  refine z_re (y := zI ((ln : Nat) : Int)) hn3 ?_
  refine lv_aload_n C.1 C.2.1 dX12_isText_6 rfl (lv_at hl 2 rfl) ?_
  refine z_readK C (As := []) (rest := [zN ln]) (c_J0_length_8abf5 l Z hw) hw rfl ⟨⟨zw_17_7, zw_17_6, zw_31_3⟩, zd_J0_length_8abf5⟩ zw_17_4 zw_17_5 ⟨Nat.le_of_ble_eq_true rfl, Nat.le_of_ble_eq_true rfl⟩ ⟨rfl, rfl⟩ rfl hl.1 rfl (Nat.le_of_ble_eq_true rfl) dX12_isText_7 ⟨Nat.zero_le _, Nat.zero_le _⟩ hS (fun locs hS => ?_)
  refine y_icmp_eq (tgt := 15) C (a := ((ln : Nat) : Int)) (b := ((zSL.getD w 0 : Nat) : Int)) dX12_isText_10 (by decide) (by omega) (fun h10 => ?_) (fun h10 => ?_)
  · refine lv_iconst (v := zI 0) C.1 C.2.1 dX12_isText_15 (by decide) ?_
    refine lv_istore_n (lv' := [(3, zN 0), (0, .ref o), (1, zN nm), (2, .ref (Z.2.2.1 w))]) C.1 C.2.1 dX12_isText_16 rfl hl (by decide) rfl (fun ls hl => ?_)
    have loop : ∀ (fu : Nat) (i : Nat) (ls : Array Slot) (locs : List Loc), va_S (fun _ => False) s.heap H locs → (i + fu = ln + 1 ∧ i ≤ ln) → (∀ j, j < i → F (fp + j) = (tx w).getD j 0) → lv_has ls 4 [(3, zN i), (0, .ref o), (1, zN nm), (2, .ref (Z.2.2.1 w))] → W p l e (rmk 5) s m args below meth c H locs 0 0 Q (F0 m 17 ls []) := by
      intro fu
      induction fu with
      | zero =>
        intro i ls locs hS hi he hl
        omega
      | succ fu ih =>
        intro i ls locs hS hi he hl
        have hk : i < ln → i < zSL.getD w 0 := by omega
        refine lv_iload_n C.1 C.2.1 dX12_isText_17 rfl (lv_at hl 0 rfl) ?_
        refine lv_aload_n C.1 C.2.1 dX12_isText_18 rfl (lv_at hl 3 rfl) ?_
        refine z_readK C (As := []) (rest := [zN i]) (c_J0_length_8abf5 l Z hw) hw rfl ⟨⟨zw_17_7, zw_17_6, zw_31_3⟩, zd_J0_length_8abf5⟩ zw_17_4 zw_17_5 ⟨Nat.le_of_ble_eq_true rfl, Nat.le_of_ble_eq_true rfl⟩ ⟨rfl, rfl⟩ rfl hl.1 rfl (Nat.le_of_ble_eq_true rfl) dX12_isText_19 ⟨Nat.zero_le _, Nat.zero_le _⟩ hS (fun locs hS => ?_)
        refine y_icmp_ge (tgt := 47) C (a := ((i : Nat) : Int)) (b := ((zSL.getD w 0 : Nat) : Int)) dX12_isText_22 (by decide) (by omega) (fun h22 => ?_) (fun h22 => ?_)
        · refine lv_iconst (v := zI 1) C.1 C.2.1 dX12_isText_47 (by decide) ?_
          exact hret _ _ _ _ (zI 1) hS ⟨congrArg (fun x : Int => some (zV x)) (bI_1 (decide_eq_true ⟨by omega, fun j hj => he j (by omega)⟩)), rfl⟩ rfl dX12_isText_48
        · have hw4 := hw3 i (by omega)
          refine lv_aload_n C.1 C.2.1 dX12_isText_25 rfl (lv_at hl 1 rfl) ?_
          refine lv_iload_n C.1 C.2.1 dX12_isText_26 rfl (lv_at hl 2 rfl) ?_
          refine lv_iload_n C.1 C.2.1 dX12_isText_27 rfl (lv_at hl 0 rfl) ?_
          refine z_readV C (As := [zN nm, zN i]) (rest := []) (c_X12_letter l Z hM hB hN i rfl (by omega)) hM.1 rfl ⟨⟨zw_30_2, zw_1_5, zw_29_23⟩, zd_X12_letter⟩ zw_30_0 zw_30_1 ⟨Nat.le_of_ble_eq_true rfl, Nat.le_of_ble_eq_true rfl⟩ ⟨rfl, rfl⟩ rfl hl.1 rfl (Nat.le_of_ble_eq_true rfl) dX12_isText_28 ⟨Nat.zero_le _, Nat.zero_le _⟩ hS (fun locs hS => ?_)
          have := nmC_lt hB.1 fp ln i
          refine lv_aload_n C.1 C.2.1 dX12_isText_31 rfl (lv_at hl 3 rfl) ?_
          refine lv_iload_n C.1 C.2.1 dX12_isText_32 rfl (lv_at hl 0 rfl) ?_
          refine z_readK C (As := [zN i]) (rest := [zN (nmC F fp ln i)]) (c_J0_charAt_5068e l Z hw (k := i) (by omega)) hw rfl ⟨⟨zw_17_18, zw_17_6, zw_31_4⟩, zd_J0_charAt_5068e⟩ zw_17_16 zw_17_17 ⟨Nat.le_of_ble_eq_true rfl, Nat.le_of_ble_eq_true rfl⟩ ⟨rfl, rfl⟩ rfl hl.1 rfl (Nat.le_of_ble_eq_true rfl) dX12_isText_33 ⟨Nat.zero_le _, Nat.zero_le _⟩ hS (fun locs hS => ?_)
          refine y_icmp_eq (tgt := 41) C (a := ((nmC F fp ln i : Nat) : Int)) (b := (((tx w).getD i 0 : Nat) : Int)) dX12_isText_36 (by decide) (by omega) (fun h36 => ?_) (fun h36 => ?_)
          · refine lv_iinc (v := zI ((i + 1 : Nat) : Int)) (lv' := [(3, zN (i + 1)), (0, .ref o), (1, zN nm), (2, .ref (Z.2.2.1 w))]) C.1 C.2.1 dX12_isText_41 hl (k := 0) rfl (zI_add _ _) (by decide) rfl (fun ls hl => ?_)
            refine lv_goto (tgt := 17) C.1 C.2.1 dX12_isText_44 (by decide) ?_
            exact ih (i + 1) ls _ hS (by omega) (lt_s he (by unfold nmC at h36; rw [if_pos (by omega)] at h36; omega)) hl
          · refine lv_iconst (v := zI 0) C.1 C.2.1 dX12_isText_39 (by decide) ?_
            exact hret _ _ _ _ (zI 0) hS ⟨congrArg (fun x : Int => some (zV x)) (bI_0 (decide_eq_false (fun z => by have z2 := z.2 i (by omega); unfold nmC at h36; rw [if_pos (by omega)] at h36; omega))), rfl⟩ rfl dX12_isText_40
    exact loop (ln + 1) 0 ls _ hS (by omega) (fun j h => absurd h (by omega)) hl
  · refine lv_iconst (v := zI 0) C.1 C.2.1 dX12_isText_13 (by decide) ?_
    exact hret _ _ _ _ (zI 0) hS ⟨congrArg (fun x : Int => some (zV x)) (bI_0 (decide_eq_false (fun z => absurd z.1 (by omega)))), rfl⟩ rfl dX12_isText_14
