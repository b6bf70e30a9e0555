/-! the model: broken, must, over -/

set_option maxHeartbeats 4000000 in
set_option maxRecDepth 20000 in
theorem c_X12_broken (l : Launch) (Z : zT) {H : Heap} {o : Nat} {ad : Nat → Nat} {σ : mS} (hM : isM Z H o ad σ) (r w : Int32) : zM l Z yX12_broken cX12_broken 3 (some (.object "java/lang/IllegalStateException")) (rmk 1) [.ref o, .int r, .int w] H (mA o ad) 0 0 (fun v H' => v = some (.ref (ad 3)) ∧ isM Z H' o ad (sx (sx σ 4 r) 5 w)) := by
  refine zM.introA (own := RX12) ⟨by decide, rfl⟩ (Nat.le_of_ble_eq_true rfl) ?_
  intro p e s m args below meth c Q ls hH C hl hret
  have hS : va_S (mA o ad) s.heap H [] := by rw [hH]; exact va_S.rf
  have hl : lv_has ls 3 [(0, .ref o), (1, .int r), (2, .int w)] := hl
  refine lv_aload_n C.1 C.2.1 dX12_broken_0 rfl (lv_at hl 0 rfl) ?_
  refine lv_iload_n C.1 C.2.1 dX12_broken_1 rfl (lv_at hl 1 rfl) ?_
  refine m_put C hM 4 (sx σ 4 (r)) rfl rfl (by decide) zw_25_17 rfl rfl rfl rfl hS dX12_broken_2 (fun H locs hM hS => ?_)
  refine lv_aload_n C.1 C.2.1 dX12_broken_5 rfl (lv_at hl 0 rfl) ?_
  refine lv_iload_n C.1 C.2.1 dX12_broken_6 rfl (lv_at hl 2 rfl) ?_
  refine m_put C hM 5 (sx (sx σ 4 (r)) 5 (w)) rfl rfl (by decide) zw_25_16 rfl rfl rfl rfl hS dX12_broken_7 (fun H locs hM hS => ?_)
  refine lv_aload_n C.1 C.2.1 dX12_broken_10 rfl (lv_at hl 0 rfl) ?_
  refine m_get C hM 3 (v := .ref (ad 3)) (by decide) zw_4_20 rfl rfl dX12_broken_11 ?_
  exact hret _ _ _ _ (.ref (ad 3)) hS ⟨rfl, hM⟩ (Or.inr ⟨_, rfl⟩) dX12_broken_14

set_option maxHeartbeats 4000000 in
set_option maxRecDepth 20000 in
theorem c_X12_must (l : Launch) (Z : zT) {H : Heap} {o : Nat} {ad : Nat → Nat} {σ : mS} (hM : isM Z H o ad σ) (b : Bool) (r w : Int32) : zX l Z yX12_must cX12_must 4 none (rmk 2) [.ref o, zV (bI b), .int r, .int w] H (mA o ad) 0 0 (fun v H' => b = true ∧ v = none ∧ isM Z H' o ad σ) (fun H' => b = false ∧ isM Z H' o ad (sx (sx σ 4 r) 5 w)) := by
  refine zX.introV (own := RX12) ⟨by decide, rfl⟩ (Nat.le_of_ble_eq_true rfl) ?_
  intro p e s m args below meth c Q ls hH C hl hth hret
  have hS : va_S (mA o ad) s.heap H [] := by rw [hH]; exact va_S.rf
  have hl : lv_has ls 4 [(0, .ref o), (1, zV (bI b)), (2, .int r), (3, .int w)] := hl
  refine lv_iload_n C.1 C.2.1 dX12_must_0 rfl (lv_at hl 1 rfl) ?_
  refine y_ifb_ne (tgt := 11) C dX12_must_1 (by decide) (fun h1 => ?_) (fun h1 => ?_)
  · exact hret _ _ _ _ hS ⟨h1, rfl, hM⟩ dX12_must_11
  · refine lv_aload_n C.1 C.2.1 dX12_must_4 rfl (lv_at hl 0 rfl) ?_
    refine lv_iload_n C.1 C.2.1 dX12_must_5 rfl (lv_at hl 2 rfl) ?_
    refine lv_iload_n C.1 C.2.1 dX12_must_6 rfl (lv_at hl 3 rfl) ?_
    refine z_callV C (As := [.int r, .int w]) (rest := []) (c_X12_broken l Z hM r w) hM.1 rfl ⟨⟨zw_26_20, zw_1_5, zw_26_17⟩, zd_X12_broken⟩ zw_26_18 zw_26_19 ⟨Nat.le_of_ble_eq_true rfl, Nat.le_of_ble_eq_true rfl⟩ ⟨rfl, rfl⟩ rfl hl.1 rfl (Nat.le_of_ble_eq_true rfl) dX12_must_7 ⟨Nat.zero_le _, Nat.zero_le _⟩ hS (fun _ h => h) (fun v H locs hp hS _ _ => ?_)
    obtain ⟨rfl, hM⟩ := hp
    obtain ⟨ce, g1, g2, g3⟩ := hM.exc C.2.2.2.2.2.1
    refine vx_athrow C.1 C.2.1 dX12_must_10 ?_
    exact hth _ _ _ _ _ _ _ hS (⟨h1, hM⟩) g1 g2 g3

set_option maxHeartbeats 4000000 in
set_option maxRecDepth 20000 in
theorem c_X12_over (l : Launch) (Z : zT) {H : Heap} {o : Nat} {ad : Nat → Nat} {σ : mS} (hM : isM Z H o ad σ) {q n b : Nat} (h9 : σ.1 9 = zI (q : Int)) (h8 : σ.1 8 = zI (n : Int)) (hp : q ≤ 16000) (hn : n ≤ 16000) (hb : b < 8589934592) : zX l Z yX12_over cX12_over 4 (some .int) (rmk 2) [.ref o, .long (zL (b : Int))] H (mA o ad) 0 0 (fun v H' => q + b ≤ n ∧ v = some (zN q) ∧ isM Z H' o ad (sx σ 9 (zI ((q + b : Nat) : Int)))) (fun H' => ¬ q + b ≤ n ∧ isM Z H' o ad (sx (sx σ 4 (zI 2)) 5 (zI (n : Int)))) := by
  refine zX.introI (own := RX12) ⟨by decide, rfl⟩ (Nat.le_of_ble_eq_true rfl) ?_
  intro p e s m args below meth c Q ls hH C hl hth hret
  have hS : va_S (mA o ad) s.heap H [] := by rw [hH]; exact va_S.rf
  have hl : lv_has ls 4 [(0, .ref o), (1, .long (zL (b : Int)))] := hl
  refine lv_aload_n C.1 C.2.1 dX12_over_0 rfl (lv_at hl 0 rfl) ?_
  refine m_get C hM 9 (v := .int (σ.1 9)) (by decide) zw_26_7 rfl rfl dX12_over_1 ?_
  refine z_re (y := zI ((q : Nat) : Int)) h9 ?_
  refine y_i2l C (a := ((q : Nat) : Int)) (by omega) dX12_over_4 ?_
  refine lv_lload_n C.1 C.2.1 dX12_over_5 rfl (lv_at hl 1 rfl) ?_
  refine y_ladd C (a := ((q : Nat) : Int)) (b := (b : Int)) dX12_over_6 ?_
  refine lv_aload_n C.1 C.2.1 dX12_over_7 rfl (lv_at hl 0 rfl) ?_
  refine m_get C hM 8 (v := .int (σ.1 8)) (by decide) zw_25_15 rfl rfl dX12_over_8 ?_
  refine z_re (y := zI ((n : Nat) : Int)) h8 ?_
  refine y_i2l C (a := ((n : Nat) : Int)) (by omega) dX12_over_11 ?_
  refine y_lif_le (tgt := 26) C (a := ((q : Nat) : Int) + (b : Int)) (b := ((n : Nat) : Int)) dX12_over_12 dX12_over_13 (by decide) (by omega) (fun h12 => ?_) (fun h12 => ?_)
  · refine lv_aload_n C.1 C.2.1 dX12_over_26 rfl (lv_at hl 0 rfl) ?_
    refine m_get C hM 9 (v := .int (σ.1 9)) (by decide) zw_26_7 rfl rfl dX12_over_27 ?_
    refine z_re (y := zI ((q : Nat) : Int)) h9 ?_
    refine lv_istore_n (lv' := [(3, zN q), (0, .ref o), (1, .long (zL (b : Int)))]) C.1 C.2.1 dX12_over_30 rfl hl (by decide) rfl (fun ls hl => ?_)
    refine lv_aload_n C.1 C.2.1 dX12_over_31 rfl (lv_at hl 1 rfl) ?_
    refine lv_dup C.1 C.2.1 dX12_over_32 rfl ?_
    refine m_get C hM 9 (v := .int (σ.1 9)) (by decide) zw_26_7 rfl rfl dX12_over_33 ?_
    refine z_re (y := zI ((q : Nat) : Int)) h9 ?_
    refine lv_lload_n C.1 C.2.1 dX12_over_36 rfl (lv_at hl 2 rfl) ?_
    refine y_l2i C (a := (b : Int)) dX12_over_37 ?_
    refine y_iadd C (a := ((q : Nat) : Int)) (b := (b : Int)) dX12_over_38 ?_
    refine z_re (y := zI ((q + b : Nat) : Int)) rfl ?_
    refine m_put C hM 9 (sx σ 9 (zI ((q + b : Nat) : Int))) rfl rfl (by decide) zw_26_7 rfl rfl rfl rfl hS dX12_over_39 (fun H locs hM hS => ?_)
    refine lv_iload_n C.1 C.2.1 dX12_over_42 rfl (lv_at hl 0 rfl) ?_
    exact hret _ _ _ _ (zI ((q : Nat) : Int)) hS ⟨by omega, rfl, hM⟩ rfl dX12_over_43
  · refine lv_aload_n C.1 C.2.1 dX12_over_16 rfl (lv_at hl 0 rfl) ?_
    refine lv_iconst (v := zI 2) C.1 C.2.1 dX12_over_17 (by decide) ?_
    refine lv_aload_n C.1 C.2.1 dX12_over_18 rfl (lv_at hl 0 rfl) ?_
    refine m_get C hM 8 (v := .int (σ.1 8)) (by decide) zw_25_15 rfl rfl dX12_over_19 ?_
    refine z_re (y := zI ((n : Nat) : Int)) h8 ?_
    refine z_callV C (As := [zN 2, zN n]) (rest := []) (c_X12_broken l Z hM (zI 2) (zI ((n : Nat) : Int))) hM.1 rfl ⟨⟨zw_26_20, zw_1_5, zw_26_17⟩, zd_X12_broken⟩ zw_26_18 zw_26_19 ⟨Nat.le_of_ble_eq_true rfl, Nat.le_of_ble_eq_true rfl⟩ ⟨rfl, rfl⟩ rfl hl.1 rfl (Nat.le_of_ble_eq_true rfl) dX12_over_22 ⟨Nat.zero_le _, Nat.zero_le _⟩ hS (fun _ h => h) (fun v H locs hp hS _ _ => ?_)
    obtain ⟨rfl, hM⟩ := hp
    obtain ⟨ce, g1, g2, g3⟩ := hM.exc C.2.2.2.2.2.1
    refine vx_athrow C.1 C.2.1 dX12_over_25 ?_
    exact hth _ _ _ _ _ _ _ hS (⟨by omega, hM⟩) g1 g2 g3

/-- what is read of a layout: the fields and rows of the model that it changes -/
def LX : List Nat := [4, 5, 9, 10, 16, 17, 18, 21, 24]
def LF : List Nat := [11, 12, 13, 14, 15, 20, 22, 23]
