/-! the model: pushed, member, switched -/
def psR (F tb : Nat → Nat) (pc k g : Nat) : Option R3 := if isE F tb pc k g = true then (if g = 3 then some (300, S4 F (tb k + 1), 0) else some (301, S4 F (tb k + 1), S4 F (tb k + 5))) else none

set_option maxHeartbeats 4000000 in
set_option maxRecDepth 20000 in
theorem c_X12_pushed (l : Launch) (Z : zT) {H : Heap} {o : Nat} {ad : Nat → Nat} {σ : mS} (hM : isM Z H o ad σ) {F : Nat → Nat} {n : Nat} (hB : mSrc σ F n) {cl nf nm fa last : Nat} {tb mt : Nat → Nat} (hL : mLay σ F n tb cl nf nm mt fa last) {ca nc : Nat} (h32 : σ.1 32 = zI (ca : Int)) (hca : ca ≤ 16000) (h37 : σ.1 37 = zI (nc : Int)) (hnc : nc < 28800) (q k g : Nat) (hq : q ≤ 1200) (hk : k ≤ 65535) (hg : g = 3 ∨ g = 5) : zX l Z yX12_pushed cX12_pushed 4 none (rmk 5) [.ref o, zN q, zN k, zN g] H (mA o ad) 0 0 (fun v H' => v = none ∧ ∃ r : R3, psR F tb (U2 F 8) k g = some r ∧ isM Z H' o ad (rowR σ nc r)) (fun H' => psR F tb (U2 F 8) k g = none ∧ mBrk Z o ad [4, 5] [] σ 16 (ca + q) H') := by
  have hn := hB.2.2.2
  have hpc := hL.2.1
  have hcl := hL.2.2.2.2.2.1
  have hnf := hL.2.2.2.2.2.2.2.2.1
  have hnm := hL.2.2.2.2.2.2.2.2.2.1
  have hMt := hL.2.2.2.2.2.2.2.2.2.2.1
  have hna := hL.2.2.2.2.2.2.2.2.2.2.2.2.1
  have hfa := hL.2.2.2.2.2.2.2.2.2.2.2.2.2.1
  refine zX.introV (own := RX12) ⟨by decide, rfl⟩ (Nat.le_of_ble_eq_true rfl) ?_
  intro p e s m args below meth c Q ls hH C hl hth hret
  have hS : va_S (mA o ad) s.heap H [] := by rw [hH]; exact va_S.rf
  have hl : lv_has ls 4 [(0, .ref o), (1, zN q), (2, zN k), (3, zN g)] := hl
  refine lv_aload_n C.1 C.2.1 dX12_pushed_0 rfl (lv_at hl 0 rfl) ?_
  refine lv_aload_n C.1 C.2.1 dX12_pushed_1 rfl (lv_at hl 0 rfl) ?_
  refine lv_iload_n C.1 C.2.1 dX12_pushed_2 rfl (lv_at hl 2 rfl) ?_
  refine lv_iload_n C.1 C.2.1 dX12_pushed_3 rfl (lv_at hl 3 rfl) ?_
  refine z_readV C (As := [zN k, zN g]) (rest := [.ref o]) (c_X12_isEntry l Z hM hB hL k g rfl (by omega) (by omega)) hM.1 rfl ⟨⟨zw_28_18, zw_1_5, zw_28_15⟩, zd_X12_isEntry⟩ zw_28_16 zw_28_17 ⟨Nat.le_of_ble_eq_true rfl, Nat.le_of_ble_eq_true rfl⟩ ⟨rfl, rfl⟩ rfl hl.1 rfl (Nat.le_of_ble_eq_true rfl) dX12_pushed_4 ⟨Nat.zero_le _, Nat.zero_le _⟩ hS (fun locs hS => ?_)
  refine lv_iload_n C.1 C.2.1 dX12_pushed_7 rfl (lv_at hl 1 rfl) ?_
  refine z_callVX C (As := [zV (bI (isE F tb (U2 F 8) k g)), zN q]) (rest := []) (c_X12_point l Z hM h32 (by omega) (isE F tb (U2 F 8) k g) q (by omega)) hM.1 rfl ⟨⟨zw_34_1, zw_1_5, zw_33_22⟩, zd_X12_point⟩ zw_33_23 zw_34_0 ⟨Nat.le_of_ble_eq_true rfl, Nat.le_of_ble_eq_true rfl⟩ ⟨rfl, rfl⟩ rfl hl.1 rfl (Nat.le_of_ble_eq_true rfl) dX12_pushed_8 ⟨Nat.zero_le _, Nat.zero_le _⟩ hS (fun _ h => h) (fun H9 locs9 q9 ce9 hp9 hS9 _ _ g1 g2 g3 => ?_) (fun v H locs hp hS _ _ => ?_)
  · exact hth _ _ _ _ _ _ _ hS9 (⟨(by unfold psR; rw [if_neg (by rw [hp9.1]; decide)]), hp9.2⟩) g1 g2 g3
  obtain ⟨hb8, rfl, hM⟩ := hp
  obtain ⟨hp1, hp2, hp3⟩ := isE_t hb8
  obtain ⟨ht1, ht2, ht3⟩ := hL.ent (show k < 502 by omega) (by omega)
  refine lv_iload_n C.1 C.2.1 dX12_pushed_11 rfl (lv_at hl 3 rfl) ?_
  refine lv_iconst (v := zI 3) C.1 C.2.1 dX12_pushed_12 (by decide) ?_
  refine y_icmp_ne (tgt := 34) C (a := ((g : Nat) : Int)) (b := 3) dX12_pushed_13 (by decide) (by omega) (fun h13 => ?_) (fun h13 => ?_)
  · have he5 := ht3.2.2.2.2.2.1 (by omega)
    refine lv_aload_n C.1 C.2.1 dX12_pushed_34 rfl (lv_at hl 0 rfl) ?_
    refine lv_sipush (v := zI 301) C.1 C.2.1 dX12_pushed_35 (by decide) ?_
    refine lv_aload_n C.1 C.2.1 dX12_pushed_38 rfl (lv_at hl 0 rfl) ?_
    refine m_get C hM 15 (v := .ref (ad 15)) (by decide) zw_5_3 rfl rfl dX12_pushed_39 ?_
    refine lv_iload_n C.1 C.2.1 dX12_pushed_42 rfl (lv_at hl 2 rfl) ?_
    refine m_lld C hM k (t := ((k : Nat) : Int)) rfl (by omega) dX12_pushed_43 ?_
    refine lv_bipush (v := zI 32) C.1 C.2.1 dX12_pushed_44 (by decide) ?_
    refine lv_lshr (v := (σ.2.2 k) >>> ((zI 32).toInt64 &&& 63)) C.1 C.2.1 dX12_pushed_46 rfl ?_
    refine lv_l2i C.1 C.2.1 dX12_pushed_47 rfl ?_
    refine z_re (y := zI (S4 F (tb k + 1))) he5.2.2 ?_
    refine lv_aload_n C.1 C.2.1 dX12_pushed_48 rfl (lv_at hl 0 rfl) ?_
    refine m_get C hM 15 (v := .ref (ad 15)) (by decide) zw_5_3 rfl rfl dX12_pushed_49 ?_
    refine lv_iload_n C.1 C.2.1 dX12_pushed_52 rfl (lv_at hl 2 rfl) ?_
    refine m_lld C hM k (t := ((k : Nat) : Int)) rfl (by omega) dX12_pushed_53 ?_
    refine lv_l2i C.1 C.2.1 dX12_pushed_54 rfl ?_
    refine z_re (y := zI (S4 F (tb k + 5))) he5.1 ?_
    refine z_callV C (As := [zN 301, zV (S4 F (tb k + 1)), zV (S4 F (tb k + 5))]) (rest := []) (c_X12_row l Z hM (nc := nc) 301 (S4 F (tb k + 1)) (S4 F (tb k + 5)) h37 hnc) hM.1 rfl ⟨⟨zw_33_13, zw_1_5, zw_33_10⟩, zd_X12_row⟩ zw_33_11 zw_33_12 ⟨Nat.le_of_ble_eq_true rfl, Nat.le_of_ble_eq_true rfl⟩ ⟨rfl, rfl⟩ rfl hl.1 rfl (Nat.le_of_ble_eq_true rfl) dX12_pushed_55 ⟨Nat.zero_le _, Nat.zero_le _⟩ hS (fun _ h => h) (fun v H locs hp hS _ _ => ?_)
    obtain ⟨rfl, hM⟩ := hp
    exact hret _ _ _ _ hS ⟨rfl, (301, (S4 F (tb k + 1)), (S4 F (tb k + 5))), (by unfold psR; rw [if_pos hb8, if_neg (by omega)]), hM⟩ dX12_pushed_58
  · have he3 := ht3.2.2.2.2.1 (by omega)
    refine lv_aload_n C.1 C.2.1 dX12_pushed_16 rfl (lv_at hl 0 rfl) ?_
    refine lv_sipush (v := zI 300) C.1 C.2.1 dX12_pushed_17 (by decide) ?_
    refine lv_aload_n C.1 C.2.1 dX12_pushed_20 rfl (lv_at hl 0 rfl) ?_
    refine m_get C hM 15 (v := .ref (ad 15)) (by decide) zw_5_3 rfl rfl dX12_pushed_21 ?_
    refine lv_iload_n C.1 C.2.1 dX12_pushed_24 rfl (lv_at hl 2 rfl) ?_
    refine m_lld C hM k (t := ((k : Nat) : Int)) rfl (by omega) dX12_pushed_25 ?_
    refine z_reL (y := (zL (S4 F (tb k + 1)))) he3.1 ?_
    refine y_l2i C (a := S4 F (tb k + 1)) dX12_pushed_26 ?_
    refine lv_iconst (v := zI 0) C.1 C.2.1 dX12_pushed_27 (by decide) ?_
    refine z_callV C (As := [zN 300, zV (S4 F (tb k + 1)), zN 0]) (rest := []) (c_X12_row l Z hM (nc := nc) 300 (S4 F (tb k + 1)) 0 h37 hnc) hM.1 rfl ⟨⟨zw_33_13, zw_1_5, zw_33_10⟩, zd_X12_row⟩ zw_33_11 zw_33_12 ⟨Nat.le_of_ble_eq_true rfl, Nat.le_of_ble_eq_true rfl⟩ ⟨rfl, rfl⟩ rfl hl.1 rfl (Nat.le_of_ble_eq_true rfl) dX12_pushed_28 ⟨Nat.zero_le _, Nat.zero_le _⟩ hS (fun _ h => h) (fun v H locs hp hS _ _ => ?_)
    obtain ⟨rfl, hM⟩ := hp
    refine lv_goto (tgt := 58) C.1 C.2.1 dX12_pushed_31 (by decide) ?_
    exact hret _ _ _ _ hS ⟨rfl, (300, (S4 F (tb k + 1)), 0), (by unfold psR; rw [if_pos hb8, if_pos (by omega)]), hM⟩ dX12_pushed_58
