/-! the model: rows, point, pointedAt, localRow, grown, pushed, wide -/
def rw1 (σ : mS) (nc : Nat) (a : Int) : mS := sf σ 36 (upd (σ.2.1 36) (3 * nc) (zI a))
def rw2 (σ : mS) (nc : Nat) (a b : Int) : mS := sf (rw1 σ nc a) 36 (upd ((rw1 σ nc a).2.1 36) (3 * nc + 1) (zI b))
def rw3 (σ : mS) (nc : Nat) (a b c : Int) : mS := sf (rw2 σ nc a b) 36 (upd ((rw2 σ nc a b).2.1 36) (3 * nc + 2) (zI c))
/-- the state after a row more -/
def rowS (σ : mS) (nc : Nat) (a b c : Int) : mS := sx (rw3 σ nc a b c) 37 (zI ((nc + 1 : Nat) : Int))
theorem chg_rowS {xs fs : List Nat} {σ σ' : mS} {nc : Nat} {a b c : Int} (hk : 37 ∈ xs ∧ 36 ∈ fs) (h : chg xs fs σ σ') : chg xs fs σ (rowS σ' nc a b c) := chg_sx hk.1 (chg_sf hk.2 (chg_sf hk.2 (chg_sf hk.2 h)))
abbrev R3 : Type := Int × Int × Int
abbrev rowR (σ : mS) (nc : Nat) (r : R3) : mS := rowS σ nc r.1 r.2.1 r.2.2
theorem chg_rowR {xs fs : List Nat} {σ σ' : mS} {nc : Nat} {r : R3} (hk : 37 ∈ xs ∧ 36 ∈ fs) (h : chg xs fs σ σ') : chg xs fs σ (rowR σ' nc r) := chg_rowS hk h
/-- the row of an instruction that tells a local -/
def lcR (ml : Nat) (t : Int) (k : Nat) : Option R3 := if k + (if t = 22 ∨ t = 55 then 2 else 1) ≤ ml then some (t, (k : Int), 0) else none
def grR (ml : Nat) (k : Nat) (b : Int) : Option R3 := if k < ml then some (132, (k : Int), b) else none

set_option maxHeartbeats 4000000 in
set_option maxRecDepth 20000 in
theorem c_X12_row (l : Launch) (Z : zT) {H : Heap} {o : Nat} {ad : Nat → Nat} {σ : mS} (hM : isM Z H o ad σ) {nc : Nat} (a b d : Int) (h37 : σ.1 37 = zI (nc : Int)) (hnc : nc < 28800) : zM l Z yX12_row cX12_row 4 none (rmk 1) [.ref o, zV a, zV b, zV d] H (mA o ad) 0 0 (fun v H' => v = none ∧ isM Z H' o ad (rowS σ nc a b d)) := by
  refine zM.introV (own := RX12) ⟨by decide, rfl⟩ (Nat.le_of_ble_eq_true rfl) ?_
  intro p e s m args below meth c Q ls hH C hnm hl hret
  have hS : va_S (mA o ad) s.heap H [] := by rw [hH]; exact va_S.rf
  have hl : lv_has ls 4 [(0, .ref o), (1, zV a), (2, zV b), (3, zV d)] := hl
  refine lv_aload_n C.1 C.2.1 dX12_row_0 rfl (lv_at hl 0 rfl) ?_
  refine m_get C hM 36 (v := .ref (ad 36)) (by decide) zw_5_15 rfl rfl dX12_row_1 ?_
  refine lv_iconst (v := zI 3) C.1 C.2.1 dX12_row_4 (by decide) ?_
  refine lv_aload_n C.1 C.2.1 dX12_row_5 rfl (lv_at hl 0 rfl) ?_
  refine m_get C hM 37 (v := .int (σ.1 37)) (by decide) zw_26_1 rfl rfl dX12_row_6 ?_
  refine z_re (y := zI ((nc : Nat) : Int)) h37 ?_
  refine y_imulN C (a := 3) (b := nc) dX12_row_9 ?_
  refine lv_iload_n C.1 C.2.1 dX12_row_10 rfl (lv_at hl 1 rfl) ?_
  refine m_ast C hM 36 (by decide) (3 * nc) (t := ((3 * nc : Nat) : Int)) rfl (by show _ < 86400; omega) hS dX12_row_11 (fun H locs hM hS => ?_)
  refine lv_aload_n C.1 C.2.1 dX12_row_12 rfl (lv_at hl 0 rfl) ?_
  refine m_get C hM 36 (v := .ref (ad 36)) (by decide) zw_5_15 rfl rfl dX12_row_13 ?_
  refine lv_iconst (v := zI 3) C.1 C.2.1 dX12_row_16 (by decide) ?_
  refine lv_aload_n C.1 C.2.1 dX12_row_17 rfl (lv_at hl 0 rfl) ?_
  refine m_get C hM 37 (v := .int ((sf σ 36 (upd (σ.2.1 36) (3 * nc) (zI a))).1 37)) (by decide) zw_26_1 rfl rfl dX12_row_18 ?_
  refine z_re (y := zI ((nc : Nat) : Int)) h37 ?_
  refine y_imulN C (a := 3) (b := nc) dX12_row_21 ?_
  refine lv_iconst (v := zI 1) C.1 C.2.1 dX12_row_22 (by decide) ?_
  refine y_iaddN C (a := 3 * nc) (b := 1) dX12_row_23 ?_
  refine lv_iload_n C.1 C.2.1 dX12_row_24 rfl (lv_at hl 2 rfl) ?_
  refine m_ast C hM 36 (by decide) ((3 * nc) + 1) (t := (((3 * nc) + 1 : Nat) : Int)) rfl (by show _ < 86400; omega) hS dX12_row_25 (fun H locs hM hS => ?_)
  refine lv_aload_n C.1 C.2.1 dX12_row_26 rfl (lv_at hl 0 rfl) ?_
  refine m_get C hM 36 (v := .ref (ad 36)) (by decide) zw_5_15 rfl rfl dX12_row_27 ?_
  refine lv_iconst (v := zI 3) C.1 C.2.1 dX12_row_30 (by decide) ?_
  refine lv_aload_n C.1 C.2.1 dX12_row_31 rfl (lv_at hl 0 rfl) ?_
  refine m_get C hM 37 (v := .int ((sf (sf σ 36 (upd (σ.2.1 36) (3 * nc) (zI a))) 36 (upd ((sf σ 36 (upd (σ.2.1 36) (3 * nc) (zI a))).2.1 36) ((3 * nc) + 1) (zI b))).1 37)) (by decide) zw_26_1 rfl rfl dX12_row_32 ?_
  refine z_re (y := zI ((nc : Nat) : Int)) h37 ?_
  refine y_imulN C (a := 3) (b := nc) dX12_row_35 ?_
  refine lv_iconst (v := zI 2) C.1 C.2.1 dX12_row_36 (by decide) ?_
  refine y_iaddN C (a := 3 * nc) (b := 2) dX12_row_37 ?_
  refine lv_iload_n C.1 C.2.1 dX12_row_38 rfl (lv_at hl 3 rfl) ?_
  refine m_ast C hM 36 (by decide) ((3 * nc) + 2) (t := (((3 * nc) + 2 : Nat) : Int)) rfl (by show _ < 86400; omega) hS dX12_row_39 (fun H locs hM hS => ?_)
  refine lv_aload_n C.1 C.2.1 dX12_row_40 rfl (lv_at hl 0 rfl) ?_
  refine lv_dup C.1 C.2.1 dX12_row_41 rfl ?_
  refine m_get C hM 37 (v := .int ((sf (sf (sf σ 36 (upd (σ.2.1 36) (3 * nc) (zI a))) 36 (upd ((sf σ 36 (upd (σ.2.1 36) (3 * nc) (zI a))).2.1 36) ((3 * nc) + 1) (zI b))) 36 (upd ((sf (sf σ 36 (upd (σ.2.1 36) (3 * nc) (zI a))) 36 (upd ((sf σ 36 (upd (σ.2.1 36) (3 * nc) (zI a))).2.1 36) ((3 * nc) + 1) (zI b))).2.1 36) ((3 * nc) + 2) (zI d))).1 37)) (by decide) zw_26_1 rfl rfl dX12_row_42 ?_
  refine z_re (y := zI ((nc : Nat) : Int)) h37 ?_
  refine lv_iconst (v := zI 1) C.1 C.2.1 dX12_row_45 (by decide) ?_
  refine y_iaddN C (a := nc) (b := 1) dX12_row_46 ?_
  refine m_put C hM 37 (sx (sf (sf (sf σ 36 (upd (σ.2.1 36) (3 * nc) (zI a))) 36 (upd ((sf σ 36 (upd (σ.2.1 36) (3 * nc) (zI a))).2.1 36) ((3 * nc) + 1) (zI b))) 36 (upd ((sf (sf σ 36 (upd (σ.2.1 36) (3 * nc) (zI a))) 36 (upd ((sf σ 36 (upd (σ.2.1 36) (3 * nc) (zI a))).2.1 36) ((3 * nc) + 1) (zI b))).2.1 36) ((3 * nc) + 2) (zI d))) 37 (zI ((nc + 1 : Nat) : Int))) rfl rfl (by decide) zw_26_1 rfl rfl rfl rfl hS dX12_row_47 (fun H locs hM hS => ?_)
  exact hret _ _ _ _ hS ⟨rfl, hM⟩ dX12_row_50

set_option maxHeartbeats 4000000 in
set_option maxRecDepth 20000 in
theorem c_X12_point (l : Launch) (Z : zT) {H : Heap} {o : Nat} {ad : Nat → Nat} {σ : mS} (hM : isM Z H o ad σ) {ca : Nat} (h32 : σ.1 32 = zI (ca : Int)) (hca : ca ≤ 16000) (b : Bool) (q : Nat) (hq : q ≤ 1200) : zX l Z yX12_point cX12_point 3 none (rmk 3) [.ref o, zV (bI b), zN q] H (mA o ad) 0 0 (fun v H' => b = true ∧ v = none ∧ isM Z H' o ad σ) (fun H' => b = false ∧ mBrk Z o ad [4, 5] [] σ 16 (ca + q) H') := by
  refine zX.introV (own := RX12) ⟨by decide, rfl⟩ (Nat.le_of_ble_eq_true rfl) ?_
  intro p e s m args below meth c Q ls hH C hl hth hret
  have hS : va_S (mA o ad) s.heap H [] := by rw [hH]; exact va_S.rf
  have hl : lv_has ls 3 [(0, .ref o), (1, zV (bI b)), (2, zN q)] := hl
  refine lv_aload_n C.1 C.2.1 dX12_point_0 rfl (lv_at hl 0 rfl) ?_
  refine lv_iload_n C.1 C.2.1 dX12_point_1 rfl (lv_at hl 1 rfl) ?_
  refine lv_bipush (v := zI 16) C.1 C.2.1 dX12_point_2 (by decide) ?_
  refine lv_aload_n C.1 C.2.1 dX12_point_4 rfl (lv_at hl 0 rfl) ?_
  refine m_get C hM 32 (v := .int (σ.1 32)) (by decide) zw_31_20 rfl rfl dX12_point_5 ?_
  refine z_re (y := zI ((ca : Nat) : Int)) h32 ?_
  refine lv_iload_n C.1 C.2.1 dX12_point_8 rfl (lv_at hl 2 rfl) ?_
  refine y_iaddN C (a := ca) (b := q) dX12_point_9 ?_
  refine z_callVX C (As := [zV (bI b), zN 16, zN (ca + q)]) (rest := []) (c_X12_must l Z hM b (zI 16) (zI ((ca + q : Nat) : Int))) hM.1 rfl ⟨⟨zw_26_16, zw_1_5, zw_26_13⟩, zd_X12_must⟩ zw_26_14 zw_26_15 ⟨Nat.le_of_ble_eq_true rfl, Nat.le_of_ble_eq_true rfl⟩ ⟨rfl, rfl⟩ rfl hl.1 rfl (Nat.le_of_ble_eq_true rfl) dX12_point_10 ⟨Nat.zero_le _, Nat.zero_le _⟩ hS (fun _ h => h) (fun H9 locs9 q9 ce9 hp9 hS9 _ _ g1 g2 g3 => ?_) (fun v H locs hp hS _ _ => ?_)
  · exact hth _ _ _ _ _ _ _ hS9 (⟨hp9.1, ⟨_, hp9.2, rfl, rfl, (chg_sx (by decide) (chg_sx (by decide) chg.rf))⟩⟩) g1 g2 g3
  obtain ⟨hb, rfl, hM⟩ := hp
  exact hret _ _ _ _ hS ⟨hb, rfl, hM⟩ dX12_point_13

set_option maxHeartbeats 4000000 in
set_option maxRecDepth 20000 in
theorem c_X12_localRow (l : Launch) (Z : zT) {H : Heap} {o : Nat} {ad : Nat → Nat} {σ : mS} (hM : isM Z H o ad σ) {ca ml nc : Nat} (h32 : σ.1 32 = zI (ca : Int)) (hca : ca ≤ 16000) (h42 : σ.1 42 = zI (ml : Int)) (hml : ml ≤ 24) (h37 : σ.1 37 = zI (nc : Int)) (hnc : nc < 28800) {t : Int} (ht : -2147483648 ≤ t ∧ t ≤ 2147483647) (q k : Nat) (hq : q ≤ 1200) (hk : k ≤ 65535) : zX l Z yX12_localRow cX12_localRow 5 none (rmk 4) [.ref o, zN q, zV t, zN k] H (mA o ad) 0 0 (fun v H' => v = none ∧ ∃ r : R3, lcR ml t k = some r ∧ isM Z H' o ad (rowR σ nc r)) (fun H' => lcR ml t k = none ∧ mBrk Z o ad [4, 5] [] σ 16 (ca + q) H') := by
  refine zX.introV (own := RX12) ⟨by decide, rfl⟩ (Nat.le_of_ble_eq_true rfl) ?_
  intro p e s m args below meth c Q ls hH C hl hth hret
  have hS : va_S (mA o ad) s.heap H [] := by rw [hH]; exact va_S.rf
  have hl : lv_has ls 5 [(0, .ref o), (1, zN q), (2, zV t), (3, zN k)] := hl
  refine lv_iload_n C.1 C.2.1 dX12_localRow_0 rfl (lv_at hl 2 rfl) ?_
  refine lv_bipush (v := zI 22) C.1 C.2.1 dX12_localRow_1 (by decide) ?_
  refine y_icmp_eq (tgt := 12) C (a := t) (b := 22) dX12_localRow_3 (by decide) (by omega) (fun h3 => ?_) (fun h3 => ?_)
  · refine lv_iconst (v := zI 2) C.1 C.2.1 dX12_localRow_12 (by decide) ?_
    refine lv_goto (tgt := 17) C.1 C.2.1 dX12_localRow_13 (by decide) ?_
    refine lv_istore (lv' := [(4, zN 2), (0, .ref o), (1, zN q), (2, zV t), (3, zN k)]) C.1 C.2.1 dX12_localRow_17 hl (by decide) rfl (fun ls hl => ?_)
    refine lv_aload_n C.1 C.2.1 dX12_localRow_19 rfl (lv_at hl 1 rfl) ?_
    refine lv_iload_n C.1 C.2.1 dX12_localRow_20 rfl (lv_at hl 4 rfl) ?_
    refine lv_iload C.1 C.2.1 dX12_localRow_21 (lv_at hl 0 rfl) ?_
    refine y_iaddN C (a := k) (b := 2) dX12_localRow_23 ?_
    refine lv_aload_n C.1 C.2.1 dX12_localRow_24 rfl (lv_at hl 1 rfl) ?_
    refine m_get C hM 42 (v := .int (σ.1 42)) (by decide) zw_33_4 rfl rfl dX12_localRow_25 ?_
    refine z_re (y := zI ((ml : Nat) : Int)) h42 ?_
    refine y_icmp_gt (tgt := 35) C (a := ((k + 2 : Nat) : Int)) (b := ((ml : Nat) : Int)) dX12_localRow_28 (by decide) (by omega) (fun h28 => ?_) (fun h28 => ?_)
    · refine lv_iconst (v := zI 0) C.1 C.2.1 dX12_localRow_35 (by decide) ?_
      refine lv_iload_n C.1 C.2.1 dX12_localRow_36 rfl (lv_at hl 2 rfl) ?_
      refine z_callVX C (As := [zV (bI false), zN q]) (rest := []) (c_X12_point l Z hM h32 (by omega) false q (by omega)) hM.1 rfl ⟨⟨zw_34_1, zw_1_5, zw_33_22⟩, zd_X12_point⟩ zw_33_23 zw_34_0 ⟨Nat.le_of_ble_eq_true rfl, Nat.le_of_ble_eq_true rfl⟩ ⟨rfl, rfl⟩ rfl hl.1 rfl (Nat.le_of_ble_eq_true rfl) dX12_localRow_37 ⟨Nat.zero_le _, Nat.zero_le _⟩ hS (fun _ h => h) (fun H9 locs9 q9 ce9 hp9 hS9 _ _ g1 g2 g3 => ?_) (fun v H locs hp hS _ _ => ?_)
      · exact hth _ _ _ _ _ _ _ hS9 (⟨(by unfold lcR; rw [if_neg (by rw [if_pos (by omega)]; omega)]), hp9.2⟩) g1 g2 g3
      exact absurd hp.1 (by decide)
    · refine lv_iconst (v := zI 1) C.1 C.2.1 dX12_localRow_31 (by decide) ?_
      refine lv_goto (tgt := 36) C.1 C.2.1 dX12_localRow_32 (by decide) ?_
      refine lv_iload_n C.1 C.2.1 dX12_localRow_36 rfl (lv_at hl 2 rfl) ?_
      refine z_callVX C (As := [zV (bI true), zN q]) (rest := []) (c_X12_point l Z hM h32 (by omega) true q (by omega)) hM.1 rfl ⟨⟨zw_34_1, zw_1_5, zw_33_22⟩, zd_X12_point⟩ zw_33_23 zw_34_0 ⟨Nat.le_of_ble_eq_true rfl, Nat.le_of_ble_eq_true rfl⟩ ⟨rfl, rfl⟩ rfl hl.1 rfl (Nat.le_of_ble_eq_true rfl) dX12_localRow_37 ⟨Nat.zero_le _, Nat.zero_le _⟩ hS (fun _ h => h) (fun H9 locs9 q9 ce9 hp9 hS9 _ _ g1 g2 g3 => ?_) (fun v H locs hp hS _ _ => ?_)
      · exact absurd hp9.1 (by decide)
      obtain ⟨-, rfl, hM⟩ := hp
      refine lv_aload_n C.1 C.2.1 dX12_localRow_40 rfl (lv_at hl 1 rfl) ?_
      refine lv_iload_n C.1 C.2.1 dX12_localRow_41 rfl (lv_at hl 3 rfl) ?_
      refine lv_iload_n C.1 C.2.1 dX12_localRow_42 rfl (lv_at hl 4 rfl) ?_
      refine lv_iconst (v := zI 0) C.1 C.2.1 dX12_localRow_43 (by decide) ?_
      refine z_callV C (As := [zV t, zN k, zN 0]) (rest := []) (c_X12_row l Z hM (nc := nc) t ((k : Nat) : Int) 0 h37 hnc) hM.1 rfl ⟨⟨zw_33_13, zw_1_5, zw_33_10⟩, zd_X12_row⟩ zw_33_11 zw_33_12 ⟨Nat.le_of_ble_eq_true rfl, Nat.le_of_ble_eq_true rfl⟩ ⟨rfl, rfl⟩ rfl hl.1 rfl (Nat.le_of_ble_eq_true rfl) dX12_localRow_44 ⟨Nat.zero_le _, Nat.zero_le _⟩ hS (fun _ h => h) (fun v H locs hp hS _ _ => ?_)
      obtain ⟨rfl, hM⟩ := hp
      exact hret _ _ _ _ hS ⟨rfl, (t, (k : Int), 0), (by unfold lcR; rw [if_pos (by rw [if_pos (by omega)]; omega)]), hM⟩ dX12_localRow_47
  · refine lv_iload_n C.1 C.2.1 dX12_localRow_6 rfl (lv_at hl 2 rfl) ?_
    refine lv_bipush (v := zI 55) C.1 C.2.1 dX12_localRow_7 (by decide) ?_
    refine y_icmp_ne (tgt := 16) C (a := t) (b := 55) dX12_localRow_9 (by decide) (by omega) (fun h9 => ?_) (fun h9 => ?_)
    · refine lv_iconst (v := zI 1) C.1 C.2.1 dX12_localRow_16 (by decide) ?_
      refine lv_istore (lv' := [(4, zN 1), (0, .ref o), (1, zN q), (2, zV t), (3, zN k)]) C.1 C.2.1 dX12_localRow_17 hl (by decide) rfl (fun ls hl => ?_)
      refine lv_aload_n C.1 C.2.1 dX12_localRow_19 rfl (lv_at hl 1 rfl) ?_
      refine lv_iload_n C.1 C.2.1 dX12_localRow_20 rfl (lv_at hl 4 rfl) ?_
      refine lv_iload C.1 C.2.1 dX12_localRow_21 (lv_at hl 0 rfl) ?_
      refine y_iaddN C (a := k) (b := 1) dX12_localRow_23 ?_
      refine lv_aload_n C.1 C.2.1 dX12_localRow_24 rfl (lv_at hl 1 rfl) ?_
      refine m_get C hM 42 (v := .int (σ.1 42)) (by decide) zw_33_4 rfl rfl dX12_localRow_25 ?_
      refine z_re (y := zI ((ml : Nat) : Int)) h42 ?_
      refine y_icmp_gt (tgt := 35) C (a := ((k + 1 : Nat) : Int)) (b := ((ml : Nat) : Int)) dX12_localRow_28 (by decide) (by omega) (fun h28 => ?_) (fun h28 => ?_)
      · refine lv_iconst (v := zI 0) C.1 C.2.1 dX12_localRow_35 (by decide) ?_
        refine lv_iload_n C.1 C.2.1 dX12_localRow_36 rfl (lv_at hl 2 rfl) ?_
        refine z_callVX C (As := [zV (bI false), zN q]) (rest := []) (c_X12_point l Z hM h32 (by omega) false q (by omega)) hM.1 rfl ⟨⟨zw_34_1, zw_1_5, zw_33_22⟩, zd_X12_point⟩ zw_33_23 zw_34_0 ⟨Nat.le_of_ble_eq_true rfl, Nat.le_of_ble_eq_true rfl⟩ ⟨rfl, rfl⟩ rfl hl.1 rfl (Nat.le_of_ble_eq_true rfl) dX12_localRow_37 ⟨Nat.zero_le _, Nat.zero_le _⟩ hS (fun _ h => h) (fun H9 locs9 q9 ce9 hp9 hS9 _ _ g1 g2 g3 => ?_) (fun v H locs hp hS _ _ => ?_)
        · exact hth _ _ _ _ _ _ _ hS9 (⟨(by unfold lcR; rw [if_neg (by rw [if_neg (by omega)]; omega)]), hp9.2⟩) g1 g2 g3
        exact absurd hp.1 (by decide)
      · refine lv_iconst (v := zI 1) C.1 C.2.1 dX12_localRow_31 (by decide) ?_
        refine lv_goto (tgt := 36) C.1 C.2.1 dX12_localRow_32 (by decide) ?_
        refine lv_iload_n C.1 C.2.1 dX12_localRow_36 rfl (lv_at hl 2 rfl) ?_
        refine z_callVX C (As := [zV (bI true), zN q]) (rest := []) (c_X12_point l Z hM h32 (by omega) true q (by omega)) hM.1 rfl ⟨⟨zw_34_1, zw_1_5, zw_33_22⟩, zd_X12_point⟩ zw_33_23 zw_34_0 ⟨Nat.le_of_ble_eq_true rfl, Nat.le_of_ble_eq_true rfl⟩ ⟨rfl, rfl⟩ rfl hl.1 rfl (Nat.le_of_ble_eq_true rfl) dX12_localRow_37 ⟨Nat.zero_le _, Nat.zero_le _⟩ hS (fun _ h => h) (fun H9 locs9 q9 ce9 hp9 hS9 _ _ g1 g2 g3 => ?_) (fun v H locs hp hS _ _ => ?_)
        · exact absurd hp9.1 (by decide)
        obtain ⟨-, rfl, hM⟩ := hp
        refine lv_aload_n C.1 C.2.1 dX12_localRow_40 rfl (lv_at hl 1 rfl) ?_
        refine lv_iload_n C.1 C.2.1 dX12_localRow_41 rfl (lv_at hl 3 rfl) ?_
        refine lv_iload_n C.1 C.2.1 dX12_localRow_42 rfl (lv_at hl 4 rfl) ?_
        refine lv_iconst (v := zI 0) C.1 C.2.1 dX12_localRow_43 (by decide) ?_
        refine z_callV C (As := [zV t, zN k, zN 0]) (rest := []) (c_X12_row l Z hM (nc := nc) t ((k : Nat) : Int) 0 h37 hnc) hM.1 rfl ⟨⟨zw_33_13, zw_1_5, zw_33_10⟩, zd_X12_row⟩ zw_33_11 zw_33_12 ⟨Nat.le_of_ble_eq_true rfl, Nat.le_of_ble_eq_true rfl⟩ ⟨rfl, rfl⟩ rfl hl.1 rfl (Nat.le_of_ble_eq_true rfl) dX12_localRow_44 ⟨Nat.zero_le _, Nat.zero_le _⟩ hS (fun _ h => h) (fun v H locs hp hS _ _ => ?_)
        obtain ⟨rfl, hM⟩ := hp
        exact hret _ _ _ _ hS ⟨rfl, (t, (k : Int), 0), (by unfold lcR; rw [if_pos (by rw [if_neg (by omega)]; omega)]), hM⟩ dX12_localRow_47
    · refine lv_iconst (v := zI 2) C.1 C.2.1 dX12_localRow_12 (by decide) ?_
      refine lv_goto (tgt := 17) C.1 C.2.1 dX12_localRow_13 (by decide) ?_
      refine lv_istore (lv' := [(4, zN 2), (0, .ref o), (1, zN q), (2, zV t), (3, zN k)]) C.1 C.2.1 dX12_localRow_17 hl (by decide) rfl (fun ls hl => ?_)
      refine lv_aload_n C.1 C.2.1 dX12_localRow_19 rfl (lv_at hl 1 rfl) ?_
      refine lv_iload_n C.1 C.2.1 dX12_localRow_20 rfl (lv_at hl 4 rfl) ?_
      refine lv_iload C.1 C.2.1 dX12_localRow_21 (lv_at hl 0 rfl) ?_
      refine y_iaddN C (a := k) (b := 2) dX12_localRow_23 ?_
      refine lv_aload_n C.1 C.2.1 dX12_localRow_24 rfl (lv_at hl 1 rfl) ?_
      refine m_get C hM 42 (v := .int (σ.1 42)) (by decide) zw_33_4 rfl rfl dX12_localRow_25 ?_
      refine z_re (y := zI ((ml : Nat) : Int)) h42 ?_
      refine y_icmp_gt (tgt := 35) C (a := ((k + 2 : Nat) : Int)) (b := ((ml : Nat) : Int)) dX12_localRow_28 (by decide) (by omega) (fun h28 => ?_) (fun h28 => ?_)
      · refine lv_iconst (v := zI 0) C.1 C.2.1 dX12_localRow_35 (by decide) ?_
        refine lv_iload_n C.1 C.2.1 dX12_localRow_36 rfl (lv_at hl 2 rfl) ?_
        refine z_callVX C (As := [zV (bI false), zN q]) (rest := []) (c_X12_point l Z hM h32 (by omega) false q (by omega)) hM.1 rfl ⟨⟨zw_34_1, zw_1_5, zw_33_22⟩, zd_X12_point⟩ zw_33_23 zw_34_0 ⟨Nat.le_of_ble_eq_true rfl, Nat.le_of_ble_eq_true rfl⟩ ⟨rfl, rfl⟩ rfl hl.1 rfl (Nat.le_of_ble_eq_true rfl) dX12_localRow_37 ⟨Nat.zero_le _, Nat.zero_le _⟩ hS (fun _ h => h) (fun H9 locs9 q9 ce9 hp9 hS9 _ _ g1 g2 g3 => ?_) (fun v H locs hp hS _ _ => ?_)
        · exact hth _ _ _ _ _ _ _ hS9 (⟨(by unfold lcR; rw [if_neg (by rw [if_pos (by omega)]; omega)]), hp9.2⟩) g1 g2 g3
        exact absurd hp.1 (by decide)
      · refine lv_iconst (v := zI 1) C.1 C.2.1 dX12_localRow_31 (by decide) ?_
        refine lv_goto (tgt := 36) C.1 C.2.1 dX12_localRow_32 (by decide) ?_
        refine lv_iload_n C.1 C.2.1 dX12_localRow_36 rfl (lv_at hl 2 rfl) ?_
        refine z_callVX C (As := [zV (bI true), zN q]) (rest := []) (c_X12_point l Z hM h32 (by omega) true q (by omega)) hM.1 rfl ⟨⟨zw_34_1, zw_1_5, zw_33_22⟩, zd_X12_point⟩ zw_33_23 zw_34_0 ⟨Nat.le_of_ble_eq_true rfl, Nat.le_of_ble_eq_true rfl⟩ ⟨rfl, rfl⟩ rfl hl.1 rfl (Nat.le_of_ble_eq_true rfl) dX12_localRow_37 ⟨Nat.zero_le _, Nat.zero_le _⟩ hS (fun _ h => h) (fun H9 locs9 q9 ce9 hp9 hS9 _ _ g1 g2 g3 => ?_) (fun v H locs hp hS _ _ => ?_)
        · exact absurd hp9.1 (by decide)
        obtain ⟨-, rfl, hM⟩ := hp
        refine lv_aload_n C.1 C.2.1 dX12_localRow_40 rfl (lv_at hl 1 rfl) ?_
        refine lv_iload_n C.1 C.2.1 dX12_localRow_41 rfl (lv_at hl 3 rfl) ?_
        refine lv_iload_n C.1 C.2.1 dX12_localRow_42 rfl (lv_at hl 4 rfl) ?_
        refine lv_iconst (v := zI 0) C.1 C.2.1 dX12_localRow_43 (by decide) ?_
        refine z_callV C (As := [zV t, zN k, zN 0]) (rest := []) (c_X12_row l Z hM (nc := nc) t ((k : Nat) : Int) 0 h37 hnc) hM.1 rfl ⟨⟨zw_33_13, zw_1_5, zw_33_10⟩, zd_X12_row⟩ zw_33_11 zw_33_12 ⟨Nat.le_of_ble_eq_true rfl, Nat.le_of_ble_eq_true rfl⟩ ⟨rfl, rfl⟩ rfl hl.1 rfl (Nat.le_of_ble_eq_true rfl) dX12_localRow_44 ⟨Nat.zero_le _, Nat.zero_le _⟩ hS (fun _ h => h) (fun v H locs hp hS _ _ => ?_)
        obtain ⟨rfl, hM⟩ := hp
        exact hret _ _ _ _ hS ⟨rfl, (t, (k : Int), 0), (by unfold lcR; rw [if_pos (by rw [if_pos (by omega)]; omega)]), hM⟩ dX12_localRow_47

set_option maxHeartbeats 4000000 in
set_option maxRecDepth 20000 in
theorem c_X12_grown (l : Launch) (Z : zT) {H : Heap} {o : Nat} {ad : Nat → Nat} {σ : mS} (hM : isM Z H o ad σ) {ca ml nc : Nat} (h32 : σ.1 32 = zI (ca : Int)) (hca : ca ≤ 16000) (h42 : σ.1 42 = zI (ml : Int)) (hml : ml ≤ 24) (h37 : σ.1 37 = zI (nc : Int)) (hnc : nc < 28800) (q k : Nat) (hq : q ≤ 1200) (hk : k ≤ 65535) (t : Int) : zX l Z yX12_grown cX12_grown 4 none (rmk 4) [.ref o, zN q, zN k, zV t] H (mA o ad) 0 0 (fun v H' => v = none ∧ ∃ r : R3, grR ml k t = some r ∧ isM Z H' o ad (rowR σ nc r)) (fun H' => grR ml k t = none ∧ mBrk Z o ad [4, 5] [] σ 16 (ca + q) H') := by
  refine zX.introV (own := RX12) ⟨by decide, rfl⟩ (Nat.le_of_ble_eq_true rfl) ?_
  intro p e s m args below meth c Q ls hH C hl hth hret
  have hS : va_S (mA o ad) s.heap H [] := by rw [hH]; exact va_S.rf
  have hl : lv_has ls 4 [(0, .ref o), (1, zN q), (2, zN k), (3, zV t)] := hl
  refine lv_aload_n C.1 C.2.1 dX12_grown_0 rfl (lv_at hl 0 rfl) ?_
  refine lv_iload_n C.1 C.2.1 dX12_grown_1 rfl (lv_at hl 2 rfl) ?_
  refine lv_aload_n C.1 C.2.1 dX12_grown_2 rfl (lv_at hl 0 rfl) ?_
  refine m_get C hM 42 (v := .int (σ.1 42)) (by decide) zw_33_4 rfl rfl dX12_grown_3 ?_
  refine z_re (y := zI ((ml : Nat) : Int)) h42 ?_
  refine y_icmp_ge (tgt := 13) C (a := ((k : Nat) : Int)) (b := ((ml : Nat) : Int)) dX12_grown_6 (by decide) (by omega) (fun h6 => ?_) (fun h6 => ?_)
  · refine lv_iconst (v := zI 0) C.1 C.2.1 dX12_grown_13 (by decide) ?_
    refine lv_iload_n C.1 C.2.1 dX12_grown_14 rfl (lv_at hl 1 rfl) ?_
    refine z_callVX C (As := [zV (bI false), zN q]) (rest := []) (c_X12_point l Z hM h32 (by omega) false q (by omega)) hM.1 rfl ⟨⟨zw_34_1, zw_1_5, zw_33_22⟩, zd_X12_point⟩ zw_33_23 zw_34_0 ⟨Nat.le_of_ble_eq_true rfl, Nat.le_of_ble_eq_true rfl⟩ ⟨rfl, rfl⟩ rfl hl.1 rfl (Nat.le_of_ble_eq_true rfl) dX12_grown_15 ⟨Nat.zero_le _, Nat.zero_le _⟩ hS (fun _ h => h) (fun H9 locs9 q9 ce9 hp9 hS9 _ _ g1 g2 g3 => ?_) (fun v H locs hp hS _ _ => ?_)
    · exact hth _ _ _ _ _ _ _ hS9 (⟨(by unfold grR; rw [if_neg (by omega)]), hp9.2⟩) g1 g2 g3
    exact absurd hp.1 (by decide)
  · refine lv_iconst (v := zI 1) C.1 C.2.1 dX12_grown_9 (by decide) ?_
    refine lv_goto (tgt := 14) C.1 C.2.1 dX12_grown_10 (by decide) ?_
    refine lv_iload_n C.1 C.2.1 dX12_grown_14 rfl (lv_at hl 1 rfl) ?_
    refine z_callVX C (As := [zV (bI true), zN q]) (rest := []) (c_X12_point l Z hM h32 (by omega) true q (by omega)) hM.1 rfl ⟨⟨zw_34_1, zw_1_5, zw_33_22⟩, zd_X12_point⟩ zw_33_23 zw_34_0 ⟨Nat.le_of_ble_eq_true rfl, Nat.le_of_ble_eq_true rfl⟩ ⟨rfl, rfl⟩ rfl hl.1 rfl (Nat.le_of_ble_eq_true rfl) dX12_grown_15 ⟨Nat.zero_le _, Nat.zero_le _⟩ hS (fun _ h => h) (fun H9 locs9 q9 ce9 hp9 hS9 _ _ g1 g2 g3 => ?_) (fun v H locs hp hS _ _ => ?_)
    · exact absurd hp9.1 (by decide)
    obtain ⟨-, rfl, hM⟩ := hp
    refine lv_aload_n C.1 C.2.1 dX12_grown_18 rfl (lv_at hl 0 rfl) ?_
    refine lv_sipush (v := zI 132) C.1 C.2.1 dX12_grown_19 (by decide) ?_
    refine lv_iload_n C.1 C.2.1 dX12_grown_22 rfl (lv_at hl 2 rfl) ?_
    refine lv_iload_n C.1 C.2.1 dX12_grown_23 rfl (lv_at hl 3 rfl) ?_
    refine z_callV C (As := [zN 132, zN k, zV t]) (rest := []) (c_X12_row l Z hM (nc := nc) 132 ((k : Nat) : Int) t h37 hnc) hM.1 rfl ⟨⟨zw_33_13, zw_1_5, zw_33_10⟩, zd_X12_row⟩ zw_33_11 zw_33_12 ⟨Nat.le_of_ble_eq_true rfl, Nat.le_of_ble_eq_true rfl⟩ ⟨rfl, rfl⟩ rfl hl.1 rfl (Nat.le_of_ble_eq_true rfl) dX12_grown_24 ⟨Nat.zero_le _, Nat.zero_le _⟩ hS (fun _ h => h) (fun v H locs hp hS _ _ => ?_)
    obtain ⟨rfl, hM⟩ := hp
    exact hret _ _ _ _ hS ⟨rfl, (132, (k : Int), t), (by unfold grR; rw [if_pos (by omega)]), hM⟩ dX12_grown_27
