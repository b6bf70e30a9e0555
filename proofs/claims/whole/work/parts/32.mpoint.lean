/-! the model: pointedAt, wide -/
def wr (t : Int) : Int := if t < 2147483648 then t else t - 4294967296
theorem zI_wr (t : Int) : zI t = zI (wr t) := by
  unfold wr
  split
  · rfl
  · rw [← zI_sub, show zI 4294967296 = 0 from by decide]
    exact (Int32.sub_zero _).symm
def ptOk (sz : Nat) (na : Nat → Int) (t : Int) : Bool := decide (0 ≤ t ∧ t < (sz : Int) ∧ 0 ≤ na t.toNat)
theorem ptOk_wr {sz : Nat} {na : Nat → Int} {t : Int} (hz : sz ≤ 1200) (h : t < 4294967296) : ptOk sz na (wr t) = ptOk sz na t := by
  unfold wr
  split
  · rfl
  · unfold ptOk
    rw [decide_eq_false (fun z => absurd z.1 (by omega)), decide_eq_false (fun z => absurd z.2.1 (by omega))]
theorem and65535 {F : Nat → Nat} (hF : isF F) (k : Nat) : zI (S2 F k) &&& zI 65535 = zI (U2 F k : Int) := by
  have h := U2_lt hF k
  have h2 : S2 F k = U2 F k ∨ S2 F k = (U2 F k : Int) - 65536 := by
    unfold S2
    split
    · exact Or.inl rfl
    · exact Or.inr rfl
  apply Int32.toBitVec_inj.1
  show BitVec.ofInt 32 (S2 F k) &&& BitVec.ofInt 32 65535 = BitVec.ofInt 32 (U2 F k : Int)
  apply BitVec.eq_of_toNat_eq
  rw [BitVec.toNat_and, BitVec.toNat_ofInt, BitVec.toNat_ofInt, BitVec.toNat_ofInt]
  rw [show ((65535 : Int) % ((2 ^ 32 : Nat) : Int)).toNat = 2 ^ 16 - 1 from by decide, Nat.and_two_pow_sub_one_eq_mod]
  omega
def wdR (F : Nat → Nat) (ca ml : Nat) (q b : Nat) : Option R3 := if b = 132 then grR ml (U2 F (ca + (q + 2))) (S2 F (ca + (q + 4))) else lcR ml b (U2 F (ca + (q + 2)))

set_option maxHeartbeats 4000000 in
set_option maxRecDepth 20000 in
theorem c_X12_pointedAt (l : Launch) (Z : zT) {H : Heap} {o : Nat} {ad : Nat → Nat} {σ : mS} (hM : isM Z H o ad σ) {ca sz : Nat} {na : Nat → Int} (h32 : σ.1 32 = zI (ca : Int)) (h33 : σ.1 33 = zI (sz : Int)) (hca : ca ≤ 16000) (hsz : sz ≤ 1200) (hna : ∀ j, j < sz → σ.2.1 34 j = zI (na j) ∧ -1 ≤ na j ∧ na j ≤ 1200) (q : Nat) (t : Int) (hq : q ≤ 1200) (ht : -2147483648 ≤ t ∧ t < 2147483648) : zX l Z yX12_pointedAt cX12_pointedAt 3 (some .int) (rmk 4) [.ref o, zN q, zV t] H (mA o ad) 0 0 (fun v H' => ptOk sz na ((q : Int) + t) = true ∧ v = some (zV (na ((q : Int) + t).toNat)) ∧ isM Z H' o ad σ) (fun H' => ptOk sz na ((q : Int) + t) = false ∧ mBrk Z o ad [4, 5] [] σ 16 (ca + q) H') := by
  refine zX.introI (own := RX12) ⟨by decide, rfl⟩ (Nat.le_of_ble_eq_true rfl) ?_
  intro p e s m args below meth c Q ls hH C hl hth hret
  have hS : va_S (mA o ad) s.heap H [] := by rw [hH]; exact va_S.rf
  have hl : lv_has ls 3 [(0, .ref o), (1, zN q), (2, zV t)] := hl
  refine lv_aload_n C.1 C.2.1 dX12_pointedAt_0 rfl (lv_at hl 0 rfl) ?_
  refine lv_aload_n C.1 C.2.1 dX12_pointedAt_1 rfl (lv_at hl 0 rfl) ?_
  refine lv_iload_n C.1 C.2.1 dX12_pointedAt_2 rfl (lv_at hl 1 rfl) ?_
  refine lv_iload_n C.1 C.2.1 dX12_pointedAt_3 rfl (lv_at hl 2 rfl) ?_
  refine y_iadd C (a := ((q : Nat) : Int)) (b := t) dX12_pointedAt_4 ?_
  refine z_re (y := zI (wr ((q : Int) + t))) (zI_wr _) ?_
  refine z_readV C (As := [zV (wr ((q : Int) + t))]) (rest := [.ref o]) (c_X12_isStart l Z hM h33 hsz hna (wr ((q : Int) + t)) (by unfold wr; split <;> omega)) hM.1 rfl ⟨⟨zw_34_21, zw_1_5, zw_34_18⟩, zd_X12_isStart⟩ zw_34_19 zw_34_20 ⟨Nat.le_of_ble_eq_true rfl, Nat.le_of_ble_eq_true rfl⟩ ⟨rfl, rfl⟩ rfl hl.1 rfl (Nat.le_of_ble_eq_true rfl) dX12_pointedAt_5 ⟨Nat.zero_le _, Nat.zero_le _⟩ hS (fun locs hS => ?_)
  refine lv_iload_n C.1 C.2.1 dX12_pointedAt_8 rfl (lv_at hl 1 rfl) ?_
  refine z_callVX C (As := [zV (bI (ptOk sz na (wr ((q : Int) + t)))), zN q]) (rest := []) (c_X12_point l Z hM h32 (by omega) (ptOk sz na (wr ((q : Int) + t))) q (by omega)) hM.1 rfl ⟨⟨zw_34_1, zw_1_5, zw_33_22⟩, zd_X12_point⟩ zw_33_23 zw_34_0 ⟨Nat.le_of_ble_eq_true rfl, Nat.le_of_ble_eq_true rfl⟩ ⟨rfl, rfl⟩ rfl hl.1 rfl (Nat.le_of_ble_eq_true rfl) dX12_pointedAt_9 ⟨Nat.zero_le _, Nat.zero_le _⟩ hS (fun _ h => h) (fun H9 locs9 q9 ce9 hp9 hS9 _ _ g1 g2 g3 => ?_) (fun v H locs hp hS _ _ => ?_)
  · exact hth _ _ _ _ _ _ _ hS9 (⟨(by rw [← ptOk_wr hsz (by omega)]; exact hp9.1), hp9.2⟩) g1 g2 g3
  obtain ⟨hb9, rfl, hM⟩ := hp
  rw [ptOk_wr hsz (by omega)] at hb9
  have hz := of_decide_eq_true hb9
  obtain ⟨w, hw⟩ : ∃ w : Nat, (q : Int) + t = (w : Int) := Int.eq_ofNat_of_zero_le (by omega)
  refine lv_aload_n C.1 C.2.1 dX12_pointedAt_12 rfl (lv_at hl 0 rfl) ?_
  refine m_get C hM 34 (v := .ref (ad 34)) (by decide) zw_5_13 rfl rfl dX12_pointedAt_13 ?_
  refine lv_iload_n C.1 C.2.1 dX12_pointedAt_16 rfl (lv_at hl 1 rfl) ?_
  refine lv_iload_n C.1 C.2.1 dX12_pointedAt_17 rfl (lv_at hl 2 rfl) ?_
  refine y_iadd C (a := ((q : Nat) : Int)) (b := t) dX12_pointedAt_18 ?_
  refine z_re (y := zI ((w : Nat) : Int)) (zI_c hw) ?_
  refine m_ald C hM 34 (by decide) w (t := ((w : Nat) : Int)) rfl (by show _ < 1201; omega) dX12_pointedAt_19 ?_
  refine z_re (y := zI (na w)) ((hna w (by omega)).1) ?_
  exact hret _ _ _ _ (zI (na w)) hS ⟨hb9, (by rw [hw]; rfl), hM⟩ rfl dX12_pointedAt_20

set_option maxHeartbeats 4000000 in
set_option maxRecDepth 20000 in
theorem c_X12_wide (l : Launch) (Z : zT) {H : Heap} {o : Nat} {ad : Nat → Nat} {σ : mS} (hM : isM Z H o ad σ) {F : Nat → Nat} {n : Nat} (hB : mSrc σ F n) {ca ml nc : Nat} (h32 : σ.1 32 = zI (ca : Int)) (hca : ca ≤ 16000) (h42 : σ.1 42 = zI (ml : Int)) (hml : ml ≤ 24) (h37 : σ.1 37 = zI (nc : Int)) (hnc : nc < 28800) (q b : Nat) (hq : q ≤ 1200) (hb0 : b < 256) (h4 : ca + q + 3 < n) (h6 : b = 132 → ca + q + 5 < n) : zX l Z yX12_wide cX12_wide 4 none (rmk 5) [.ref o, zN q, zN b] H (mA o ad) 0 0 (fun v H' => v = none ∧ ∃ r : R3, wdR F ca ml q b = some r ∧ isM Z H' o ad (rowR σ nc r)) (fun H' => wdR F ca ml q b = none ∧ mBrk Z o ad [4, 5] [] σ 16 (ca + q) H') := by
  have hn := hB.2.2.2
  have hw2 := U2_lt hB.1 (ca + (q + 2))
  refine zX.introV (own := RX12) ⟨by decide, rfl⟩ (Nat.le_of_ble_eq_true rfl) ?_
  intro p e s m args below meth c Q ls hH C hl hth hret
  have hS : va_S (mA o ad) s.heap H [] := by rw [hH]; exact va_S.rf
  have hl : lv_has ls 4 [(0, .ref o), (1, zN q), (2, zN b)] := hl
  refine lv_aload_n C.1 C.2.1 dX12_wide_0 rfl (lv_at hl 0 rfl) ?_
  refine lv_iload_n C.1 C.2.1 dX12_wide_1 rfl (lv_at hl 1 rfl) ?_
  refine lv_iconst (v := zI 2) C.1 C.2.1 dX12_wide_2 (by decide) ?_
  refine y_iaddN C (a := q) (b := 2) dX12_wide_3 ?_
  refine z_readV C (As := [zN (q + 2)]) (rest := []) (c_X12_codeTwo l Z hM hB h32 (q + 2) rfl (by omega)) hM.1 rfl ⟨⟨zw_33_17, zw_1_5, zw_33_14⟩, zd_X12_codeTwo⟩ zw_33_15 zw_33_16 ⟨Nat.le_of_ble_eq_true rfl, Nat.le_of_ble_eq_true rfl⟩ ⟨rfl, rfl⟩ rfl hl.1 rfl (Nat.le_of_ble_eq_true rfl) dX12_wide_4 ⟨Nat.zero_le _, Nat.zero_le _⟩ hS (fun locs hS => ?_)
  have := S2_rg hB.1 (ca + (q + 2))
  refine lv_ldcw (v := zI 65535) C.1 C.2.1 C.2.2.2.1 (C.2.2.2.2.1 _ zw_33_9) dX12_wide_7 ?_
  refine lv_iand C.1 C.2.1 dX12_wide_10 ?_
  refine z_re (y := zI ((U2 F (ca + (q + 2)) : Nat) : Int)) (and65535 hB.1 _) ?_
  refine lv_istore_n (lv' := [(3, zN (U2 F (ca + (q + 2)))), (0, .ref o), (1, zN q), (2, zN b)]) C.1 C.2.1 dX12_wide_11 rfl hl (by decide) rfl (fun ls hl => ?_)
  refine lv_iload_n C.1 C.2.1 dX12_wide_12 rfl (lv_at hl 3 rfl) ?_
  refine lv_sipush (v := zI 132) C.1 C.2.1 dX12_wide_13 (by decide) ?_
  refine y_icmp_ne (tgt := 35) C (a := ((b : Nat) : Int)) (b := 132) dX12_wide_16 (by decide) (by omega) (fun h16 => ?_) (fun h16 => ?_)
  · refine lv_aload_n C.1 C.2.1 dX12_wide_35 rfl (lv_at hl 1 rfl) ?_
    refine lv_iload_n C.1 C.2.1 dX12_wide_36 rfl (lv_at hl 2 rfl) ?_
    refine lv_iload_n C.1 C.2.1 dX12_wide_37 rfl (lv_at hl 3 rfl) ?_
    refine lv_iload_n C.1 C.2.1 dX12_wide_38 rfl (lv_at hl 0 rfl) ?_
    refine z_callVX C (As := [zN q, zN b, zN (U2 F (ca + (q + 2)))]) (rest := []) (c_X12_localRow l Z hM h32 hca h42 hml h37 hnc (t := (b : Int)) (by omega) q (U2 F (ca + (q + 2))) hq (by omega)) hM.1 rfl ⟨⟨zw_34_5, zw_1_5, zw_34_2⟩, zd_X12_localRow⟩ zw_34_3 zw_34_4 ⟨Nat.le_of_ble_eq_true rfl, Nat.le_of_ble_eq_true rfl⟩ ⟨rfl, rfl⟩ rfl hl.1 rfl (Nat.le_of_ble_eq_true rfl) dX12_wide_39 ⟨Nat.zero_le _, Nat.zero_le _⟩ hS (fun _ h => h) (fun H9 locs9 q9 ce9 hp9 hS9 _ _ g1 g2 g3 => ?_) (fun v H locs hp hS _ _ => ?_)
    · exact hth _ _ _ _ _ _ _ hS9 (⟨(show wdR F ca ml q b = _ from if_neg (by omega)).trans hp9.1, hp9.2⟩) g1 g2 g3
    obtain ⟨rfl, r, hr, hM⟩ := hp
    replace hr := (show wdR F ca ml q b = _ from if_neg (by omega)).trans hr
    exact hret _ _ _ _ hS ⟨rfl, r, hr, hM⟩ dX12_wide_42
  · have h6 := h6 (by omega)
    refine lv_aload_n C.1 C.2.1 dX12_wide_19 rfl (lv_at hl 1 rfl) ?_
    refine lv_iload_n C.1 C.2.1 dX12_wide_20 rfl (lv_at hl 2 rfl) ?_
    refine lv_iload_n C.1 C.2.1 dX12_wide_21 rfl (lv_at hl 0 rfl) ?_
    refine lv_aload_n C.1 C.2.1 dX12_wide_22 rfl (lv_at hl 1 rfl) ?_
    refine lv_iload_n C.1 C.2.1 dX12_wide_23 rfl (lv_at hl 2 rfl) ?_
    refine lv_iconst (v := zI 4) C.1 C.2.1 dX12_wide_24 (by decide) ?_
    refine y_iaddN C (a := q) (b := 4) dX12_wide_25 ?_
    refine z_readV C (As := [zN (q + 4)]) (rest := [zN (U2 F (ca + (q + 2))), zN q, .ref o]) (c_X12_codeTwo l Z hM hB h32 (q + 4) rfl (by omega)) hM.1 rfl ⟨⟨zw_33_17, zw_1_5, zw_33_14⟩, zd_X12_codeTwo⟩ zw_33_15 zw_33_16 ⟨Nat.le_of_ble_eq_true rfl, Nat.le_of_ble_eq_true rfl⟩ ⟨rfl, rfl⟩ rfl hl.1 rfl (Nat.le_of_ble_eq_true rfl) dX12_wide_26 ⟨Nat.zero_le _, Nat.zero_le _⟩ hS (fun locs hS => ?_)
    have := S2_rg hB.1 (ca + (q + 4))
    refine z_callVX C (As := [zN q, zN (U2 F (ca + (q + 2))), zV (S2 F (ca + (q + 4)))]) (rest := []) (c_X12_grown l Z hM h32 hca h42 hml h37 hnc q (U2 F (ca + (q + 2))) hq (by omega) (S2 F (ca + (q + 4)))) hM.1 rfl ⟨⟨zw_34_9, zw_1_5, zw_34_6⟩, zd_X12_grown⟩ zw_34_7 zw_34_8 ⟨Nat.le_of_ble_eq_true rfl, Nat.le_of_ble_eq_true rfl⟩ ⟨rfl, rfl⟩ rfl hl.1 rfl (Nat.le_of_ble_eq_true rfl) dX12_wide_29 ⟨Nat.zero_le _, Nat.zero_le _⟩ hS (fun _ h => h) (fun H9 locs9 q9 ce9 hp9 hS9 _ _ g1 g2 g3 => ?_) (fun v H locs hp hS _ _ => ?_)
    · exact hth _ _ _ _ _ _ _ hS9 (⟨(show wdR F ca ml q b = _ from if_pos (by omega)).trans hp9.1, hp9.2⟩) g1 g2 g3
    obtain ⟨rfl, r, hr, hM⟩ := hp
    replace hr := (show wdR F ca ml q b = _ from if_pos (by omega)).trans hr
    refine lv_goto (tgt := 42) C.1 C.2.1 dX12_wide_32 (by decide) ?_
    exact hret _ _ _ _ hS ⟨rfl, r, hr, hM⟩ dX12_wide_42
