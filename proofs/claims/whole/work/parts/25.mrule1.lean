/-! the model: rules 6, 7, 8 -/

set_option maxHeartbeats 4000000 in
set_option maxRecDepth 20000 in
theorem c_X12_entries (l : Launch) (Z : zT) {H : Heap} {o : Nat} {ad : Nat → Nat} {σ : mS} (hM : isM Z H o ad σ) {F : Nat → Nat} {n : Nat} (hB : mSrc σ F n) {cl nf nm fa last : Nat} {tb mt : Nat → Nat} (hL : mLay σ F n tb cl nf nm mt fa last) : zX l Z yX12_entries cX12_entries 5 none (rmk 3) [.ref o] H (mA o ad) 0 0 (fun v H' => v = none ∧ x6 F tb (U2 F 8) = none ∧ isM Z H' o ad σ) (fun H' => ∃ w9 : Nat, x6 F tb (U2 F 8) = some w9 ∧ mBrk Z o ad [4, 5] [] σ 6 w9 H') := by
  have hn := hB.2.2.2
  have hpc := hL.2.1
  have hcl := hL.2.2.2.2.2.1
  have hnf := hL.2.2.2.2.2.2.2.2.1
  have hnm := hL.2.2.2.2.2.2.2.2.2.1
  have hMt := hL.2.2.2.2.2.2.2.2.2.2.1
  have hna := hL.2.2.2.2.2.2.2.2.2.2.2.2.1
  have hfa := hL.2.2.2.2.2.2.2.2.2.2.2.2.2.1
  refine zX.introV (own := RX12) ⟨by decide, rfl⟩ (Nat.le_of_ble_eq_true rfl) ?_
  intro p e s m args below meth c Q ls hH C hl hth hret
  have hS : va_S (mA o ad) s.heap H [] := by rw [hH]; exact va_S.rf
  have hl : lv_has ls 5 [(0, .ref o)] := hl
  refine lv_iconst (v := zI 1) C.1 C.2.1 dX12_entries_0 (by decide) ?_
  refine lv_istore_n (lv' := [(1, zN 1), (0, .ref o)]) C.1 C.2.1 dX12_entries_1 rfl hl (by decide) rfl (fun ls hl => ?_)
  have loop : ∀ (fu : Nat) (k : Nat) (H : Heap) (ls : Array Slot) (locs : List Loc), va_S (mA o ad) s.heap H locs → isM Z H o ad σ → (k + fu = U2 F 8 + 1 ∧ k ≤ U2 F 8 ∧ 1 ≤ k) → (fst1 (g6 F tb (U2 F 8)) (U2 F 8 - k) k = x6 F tb (U2 F 8)) → lv_has ls 5 [(1, zN k), (0, .ref o)] → W p l e (rmk 3) s m args below meth c H locs 0 0 Q (F0 m 2 ls []) := by
    intro fu
    induction fu with
    | zero =>
      intro k H ls locs hS hM hi hx hl
      omega
    | succ fu ih =>
      intro k H ls locs hS hM hi hx hl
      refine lv_iload_n C.1 C.2.1 dX12_entries_2 rfl (lv_at hl 0 rfl) ?_
      refine lv_aload_n C.1 C.2.1 dX12_entries_3 rfl (lv_at hl 1 rfl) ?_
      refine m_get C hM 10 (v := .int (σ.1 10)) (by decide) zw_26_9 rfl rfl dX12_entries_4 ?_
      refine z_re (y := zI ((U2 F 8 : Nat) : Int)) hL.1 ?_
      refine y_icmp_ge (tgt := 151) C (a := ((k : Nat) : Int)) (b := ((U2 F 8 : Nat) : Int)) dX12_entries_7 (by decide) (by omega) (fun h7 => ?_) (fun h7 => ?_)
      · exact hret _ _ _ _ hS ⟨rfl, (by rw [← hx, show U2 F 8 - k = 0 by omega]; rfl), hM⟩ dX12_entries_151
      · have hu : U2 F 8 - k = (U2 F 8 - k - 1) + 1 := by omega
        have htg : tg F tb k < 256 := by unfold tg; split; decide; exact hB.1 _
        refine lv_aload_n C.1 C.2.1 dX12_entries_10 rfl (lv_at hl 1 rfl) ?_
        refine m_get C hM 13 (v := .ref (ad 13)) (by decide) zw_5_0 rfl rfl dX12_entries_11 ?_
        refine lv_iload_n C.1 C.2.1 dX12_entries_14 rfl (lv_at hl 0 rfl) ?_
        refine m_ald C hM 13 (by decide) k (t := ((k : Nat) : Int)) rfl (by show _ < 502; omega) dX12_entries_15 ?_
        refine lv_istore_n (lv' := [(2, .int (σ.2.1 13 k)), (1, zN k), (0, .ref o)]) C.1 C.2.1 dX12_entries_16 rfl hl (by decide) rfl (fun ls hl => ?_)
        refine lv_aload_n C.1 C.2.1 dX12_entries_17 rfl (lv_at hl 2 rfl) ?_
        refine m_get C hM 14 (v := .ref (ad 14)) (by decide) zw_5_1 rfl rfl dX12_entries_18 ?_
        refine lv_iload_n C.1 C.2.1 dX12_entries_21 rfl (lv_at hl 1 rfl) ?_
        refine m_ald C hM 14 (by decide) k (t := ((k : Nat) : Int)) rfl (by show _ < 502; omega) dX12_entries_22 ?_
        refine lv_istore_n (lv' := [(3, .int (σ.2.1 14 k)), (2, .int (σ.2.1 13 k)), (1, zN k), (0, .ref o)]) C.1 C.2.1 dX12_entries_23 rfl hl (by decide) rfl (fun ls hl => ?_)
        refine lv_iconst (v := zI 1) C.1 C.2.1 dX12_entries_24 (by decide) ?_
        refine lv_istore (lv' := [(4, zN 1), (3, .int (σ.2.1 14 k)), (2, .int (σ.2.1 13 k)), (1, zN k), (0, .ref o)]) C.1 C.2.1 dX12_entries_25 hl (by decide) rfl (fun ls hl => ?_)
        refine lv_aload_n C.1 C.2.1 dX12_entries_27 rfl (lv_at hl 4 rfl) ?_
        refine m_get C hM 11 (v := .ref (ad 11)) (by decide) zw_4_22 rfl rfl dX12_entries_28 ?_
        refine lv_iload_n C.1 C.2.1 dX12_entries_31 rfl (lv_at hl 3 rfl) ?_
        refine m_ald C hM 11 (by decide) k (t := ((k : Nat) : Int)) rfl (by show _ < 502; omega) dX12_entries_32 ?_
        refine z_re (y := zI ((tg F tb k : Nat) : Int)) (hL.tag (show k < 502 by omega)) ?_
        refine lv_bipush (v := zI 7) C.1 C.2.1 dX12_entries_33 (by decide) ?_
        refine y_icmp_ne (tgt := 46) C (a := ((tg F tb k : Nat) : Int)) (b := 7) dX12_entries_35 (by decide) (by omega) (fun h35 => ?_) (fun h35 => ?_)
        · refine lv_aload_n C.1 C.2.1 dX12_entries_46 rfl (lv_at hl 4 rfl) ?_
          refine m_get C hM 11 (v := .ref (ad 11)) (by decide) zw_4_22 rfl rfl dX12_entries_47 ?_
          refine lv_iload_n C.1 C.2.1 dX12_entries_50 rfl (lv_at hl 3 rfl) ?_
          refine m_ald C hM 11 (by decide) k (t := ((k : Nat) : Int)) rfl (by show _ < 502; omega) dX12_entries_51 ?_
          refine z_re (y := zI ((tg F tb k : Nat) : Int)) (hL.tag (show k < 502 by omega)) ?_
          refine lv_bipush (v := zI 12) C.1 C.2.1 dX12_entries_52 (by decide) ?_
          refine y_icmp_ne (tgt := 82) C (a := ((tg F tb k : Nat) : Int)) (b := 12) dX12_entries_54 (by decide) (by omega) (fun h54 => ?_) (fun h54 => ?_)
          · refine lv_aload_n C.1 C.2.1 dX12_entries_82 rfl (lv_at hl 4 rfl) ?_
            refine m_get C hM 11 (v := .ref (ad 11)) (by decide) zw_4_22 rfl rfl dX12_entries_83 ?_
            refine lv_iload_n C.1 C.2.1 dX12_entries_86 rfl (lv_at hl 3 rfl) ?_
            refine m_ald C hM 11 (by decide) k (t := ((k : Nat) : Int)) rfl (by show _ < 502; omega) dX12_entries_87 ?_
            refine z_re (y := zI ((tg F tb k : Nat) : Int)) (hL.tag (show k < 502 by omega)) ?_
            refine lv_bipush (v := zI 9) C.1 C.2.1 dX12_entries_88 (by decide) ?_
            refine y_icmp_eq (tgt := 104) C (a := ((tg F tb k : Nat) : Int)) (b := 9) dX12_entries_90 (by decide) (by omega) (fun h90 => ?_) (fun h90 => ?_)
            · obtain ⟨ht1, ht2, ht3⟩ := hL.ent (show k < 502 by omega) (show tg F tb k ≠ 0 by omega)
              have he := ht3.2.2.2.2.2.2.2.1 (by omega)
              have hU1 : e1 F tb k < 65536 := U2_lt hB.1 _
              have hU2 : e2 F tb k < 65536 := U2_lt hB.1 _
              refine lv_aload_n C.1 C.2.1 dX12_entries_104 rfl (lv_at hl 4 rfl) ?_
              refine lv_iload_n C.1 C.2.1 dX12_entries_105 rfl (lv_at hl 2 rfl) ?_
              refine z_re (y := zI ((e1 F tb k : Nat) : Int)) he.1 ?_
              refine lv_bipush (v := zI 7) C.1 C.2.1 dX12_entries_106 (by decide) ?_
              refine z_readV C (As := [zN (e1 F tb k), zN 7]) (rest := []) (c_X12_isEntry l Z hM hB hL (e1 F tb k) 7 rfl (by omega) (by omega)) hM.1 rfl ⟨⟨zw_28_18, zw_1_5, zw_28_15⟩, zd_X12_isEntry⟩ zw_28_16 zw_28_17 ⟨Nat.le_of_ble_eq_true rfl, Nat.le_of_ble_eq_true rfl⟩ ⟨rfl, rfl⟩ rfl hl.1 rfl (Nat.le_of_ble_eq_true rfl) dX12_entries_108 ⟨Nat.zero_le _, Nat.zero_le _⟩ hS (fun locs hS => ?_)
              refine y_ifb_eq (tgt := 128) C dX12_entries_111 (by decide) (fun h111 => ?_) (fun h111 => ?_)
              · refine lv_iconst (v := zI 0) C.1 C.2.1 dX12_entries_128 (by decide) ?_
                refine lv_istore (lv' := [(4, zN 0), (3, .int (σ.2.1 14 k)), (2, .int (σ.2.1 13 k)), (1, zN k), (0, .ref o)]) C.1 C.2.1 dX12_entries_129 hl (by decide) rfl (fun ls hl => ?_)
                refine lv_aload_n C.1 C.2.1 dX12_entries_131 rfl (lv_at hl 4 rfl) ?_
                refine lv_iload C.1 C.2.1 dX12_entries_132 (lv_at hl 0 rfl) ?_
                refine lv_bipush (v := zI 6) C.1 C.2.1 dX12_entries_134 (by decide) ?_
                refine lv_aload_n C.1 C.2.1 dX12_entries_136 rfl (lv_at hl 4 rfl) ?_
                refine m_get C hM 12 (v := .ref (ad 12)) (by decide) zw_4_23 rfl rfl dX12_entries_137 ?_
                refine lv_iload_n C.1 C.2.1 dX12_entries_140 rfl (lv_at hl 3 rfl) ?_
                refine m_ald C hM 12 (by decide) k (t := ((k : Nat) : Int)) rfl (by show _ < 502; omega) dX12_entries_141 ?_
                refine z_callVX C (As := [zV (bI false), zN 6, .int (σ.2.1 12 k)]) (rest := []) (c_X12_must l Z hM false (zI 6) (σ.2.1 12 k)) hM.1 rfl ⟨⟨zw_26_16, zw_1_5, zw_26_13⟩, zd_X12_must⟩ zw_26_14 zw_26_15 ⟨Nat.le_of_ble_eq_true rfl, Nat.le_of_ble_eq_true rfl⟩ ⟨rfl, rfl⟩ rfl hl.1 rfl (Nat.le_of_ble_eq_true rfl) dX12_entries_142 ⟨Nat.zero_le _, Nat.zero_le _⟩ hS (fun _ h => h) (fun H9 locs9 q9 ce9 hp9 hS9 _ _ g1 g2 g3 => ?_) (fun v H locs hp hS _ _ => ?_)
                · exact hth _ _ _ _ _ _ _ hS9 (⟨tb k, (by rw [← hx, hu]; exact fst1_e (by unfold g6; rw [if_neg (by rw [show good6 F tb (U2 F 8) k = false from (by unfold good6; rw [if_neg (by omega), if_neg (by omega), if_pos (by omega)]; simp [*])]; decide)])), ⟨_, hp9.2, rfl, ht3.2.2.1, (chg_sx (by decide) (chg_sx (by decide) chg.rf))⟩⟩) g1 g2 g3
                exact absurd hp.1 (by decide)
              · refine lv_aload_n C.1 C.2.1 dX12_entries_114 rfl (lv_at hl 4 rfl) ?_
                refine lv_iload_n C.1 C.2.1 dX12_entries_115 rfl (lv_at hl 1 rfl) ?_
                refine z_re (y := zI ((e2 F tb k : Nat) : Int)) he.2.1 ?_
                refine lv_bipush (v := zI 12) C.1 C.2.1 dX12_entries_116 (by decide) ?_
                refine z_readV C (As := [zN (e2 F tb k), zN 12]) (rest := []) (c_X12_isEntry l Z hM hB hL (e2 F tb k) 12 rfl (by omega) (by omega)) hM.1 rfl ⟨⟨zw_28_18, zw_1_5, zw_28_15⟩, zd_X12_isEntry⟩ zw_28_16 zw_28_17 ⟨Nat.le_of_ble_eq_true rfl, Nat.le_of_ble_eq_true rfl⟩ ⟨rfl, rfl⟩ rfl hl.1 rfl (Nat.le_of_ble_eq_true rfl) dX12_entries_118 ⟨Nat.zero_le _, Nat.zero_le _⟩ hS (fun locs hS => ?_)
                refine y_ifb_eq (tgt := 128) C dX12_entries_121 (by decide) (fun h121 => ?_) (fun h121 => ?_)
                · refine lv_iconst (v := zI 0) C.1 C.2.1 dX12_entries_128 (by decide) ?_
                  refine lv_istore (lv' := [(4, zN 0), (3, .int (σ.2.1 14 k)), (2, .int (σ.2.1 13 k)), (1, zN k), (0, .ref o)]) C.1 C.2.1 dX12_entries_129 hl (by decide) rfl (fun ls hl => ?_)
                  refine lv_aload_n C.1 C.2.1 dX12_entries_131 rfl (lv_at hl 4 rfl) ?_
                  refine lv_iload C.1 C.2.1 dX12_entries_132 (lv_at hl 0 rfl) ?_
                  refine lv_bipush (v := zI 6) C.1 C.2.1 dX12_entries_134 (by decide) ?_
                  refine lv_aload_n C.1 C.2.1 dX12_entries_136 rfl (lv_at hl 4 rfl) ?_
                  refine m_get C hM 12 (v := .ref (ad 12)) (by decide) zw_4_23 rfl rfl dX12_entries_137 ?_
                  refine lv_iload_n C.1 C.2.1 dX12_entries_140 rfl (lv_at hl 3 rfl) ?_
                  refine m_ald C hM 12 (by decide) k (t := ((k : Nat) : Int)) rfl (by show _ < 502; omega) dX12_entries_141 ?_
                  refine z_callVX C (As := [zV (bI false), zN 6, .int (σ.2.1 12 k)]) (rest := []) (c_X12_must l Z hM false (zI 6) (σ.2.1 12 k)) hM.1 rfl ⟨⟨zw_26_16, zw_1_5, zw_26_13⟩, zd_X12_must⟩ zw_26_14 zw_26_15 ⟨Nat.le_of_ble_eq_true rfl, Nat.le_of_ble_eq_true rfl⟩ ⟨rfl, rfl⟩ rfl hl.1 rfl (Nat.le_of_ble_eq_true rfl) dX12_entries_142 ⟨Nat.zero_le _, Nat.zero_le _⟩ hS (fun _ h => h) (fun H9 locs9 q9 ce9 hp9 hS9 _ _ g1 g2 g3 => ?_) (fun v H locs hp hS _ _ => ?_)
                  · exact hth _ _ _ _ _ _ _ hS9 (⟨tb k, (by rw [← hx, hu]; exact fst1_e (by unfold g6; rw [if_neg (by rw [show good6 F tb (U2 F 8) k = false from (by unfold good6; rw [if_neg (by omega), if_neg (by omega), if_pos (by omega)]; simp [*])]; decide)])), ⟨_, hp9.2, rfl, ht3.2.2.1, (chg_sx (by decide) (chg_sx (by decide) chg.rf))⟩⟩) g1 g2 g3
                  exact absurd hp.1 (by decide)
                · refine lv_iconst (v := zI 1) C.1 C.2.1 dX12_entries_124 (by decide) ?_
                  refine lv_goto (tgt := 129) C.1 C.2.1 dX12_entries_125 (by decide) ?_
                  refine lv_istore (lv' := [(4, zN 1), (3, .int (σ.2.1 14 k)), (2, .int (σ.2.1 13 k)), (1, zN k), (0, .ref o)]) C.1 C.2.1 dX12_entries_129 hl (by decide) rfl (fun ls hl => ?_)
                  refine lv_aload_n C.1 C.2.1 dX12_entries_131 rfl (lv_at hl 4 rfl) ?_
                  refine lv_iload C.1 C.2.1 dX12_entries_132 (lv_at hl 0 rfl) ?_
                  refine lv_bipush (v := zI 6) C.1 C.2.1 dX12_entries_134 (by decide) ?_
                  refine lv_aload_n C.1 C.2.1 dX12_entries_136 rfl (lv_at hl 4 rfl) ?_
                  refine m_get C hM 12 (v := .ref (ad 12)) (by decide) zw_4_23 rfl rfl dX12_entries_137 ?_
                  refine lv_iload_n C.1 C.2.1 dX12_entries_140 rfl (lv_at hl 3 rfl) ?_
                  refine m_ald C hM 12 (by decide) k (t := ((k : Nat) : Int)) rfl (by show _ < 502; omega) dX12_entries_141 ?_
                  refine z_callVX C (As := [zV (bI true), zN 6, .int (σ.2.1 12 k)]) (rest := []) (c_X12_must l Z hM true (zI 6) (σ.2.1 12 k)) hM.1 rfl ⟨⟨zw_26_16, zw_1_5, zw_26_13⟩, zd_X12_must⟩ zw_26_14 zw_26_15 ⟨Nat.le_of_ble_eq_true rfl, Nat.le_of_ble_eq_true rfl⟩ ⟨rfl, rfl⟩ rfl hl.1 rfl (Nat.le_of_ble_eq_true rfl) dX12_entries_142 ⟨Nat.zero_le _, Nat.zero_le _⟩ hS (fun _ h => h) (fun H9 locs9 q9 ce9 hp9 hS9 _ _ g1 g2 g3 => ?_) (fun v H locs hp hS _ _ => ?_)
                  · exact absurd hp9.1 (by decide)
                  obtain ⟨-, rfl, hM⟩ := hp
                  refine lv_iinc (v := zI ((k + 1 : Nat) : Int)) (lv' := [(1, zN (k + 1)), (4, zN 1), (3, .int (σ.2.1 14 k)), (2, .int (σ.2.1 13 k)), (0, .ref o)]) C.1 C.2.1 dX12_entries_145 hl (k := 3) rfl (zI_add _ _) (by decide) rfl (fun ls hl => ?_)
                  refine lv_goto (tgt := 2) C.1 C.2.1 dX12_entries_148 (by decide) ?_
                  exact ih (k + 1) _ ls _ hS hM (by omega) (by rw [← hx, hu, fst1_s (by unfold g6; rw [if_pos (by unfold good6; rw [if_neg (by omega), if_neg (by omega), if_pos (by omega)]; simp [*])])]; rw [show U2 F 8 - (k + 1) = U2 F 8 - k - 1 by omega]) (lv_sub hl [0, 4] rfl)
            · refine lv_aload_n C.1 C.2.1 dX12_entries_93 rfl (lv_at hl 4 rfl) ?_
              refine m_get C hM 11 (v := .ref (ad 11)) (by decide) zw_4_22 rfl rfl dX12_entries_94 ?_
              refine lv_iload_n C.1 C.2.1 dX12_entries_97 rfl (lv_at hl 3 rfl) ?_
              refine m_ald C hM 11 (by decide) k (t := ((k : Nat) : Int)) rfl (by show _ < 502; omega) dX12_entries_98 ?_
              refine z_re (y := zI ((tg F tb k : Nat) : Int)) (hL.tag (show k < 502 by omega)) ?_
              refine lv_bipush (v := zI 10) C.1 C.2.1 dX12_entries_99 (by decide) ?_
              refine y_icmp_ne (tgt := 131) C (a := ((tg F tb k : Nat) : Int)) (b := 10) dX12_entries_101 (by decide) (by omega) (fun h101 => ?_) (fun h101 => ?_)
              · refine lv_aload_n C.1 C.2.1 dX12_entries_131 rfl (lv_at hl 4 rfl) ?_
                refine lv_iload C.1 C.2.1 dX12_entries_132 (lv_at hl 0 rfl) ?_
                refine lv_bipush (v := zI 6) C.1 C.2.1 dX12_entries_134 (by decide) ?_
                refine lv_aload_n C.1 C.2.1 dX12_entries_136 rfl (lv_at hl 4 rfl) ?_
                refine m_get C hM 12 (v := .ref (ad 12)) (by decide) zw_4_23 rfl rfl dX12_entries_137 ?_
                refine lv_iload_n C.1 C.2.1 dX12_entries_140 rfl (lv_at hl 3 rfl) ?_
                refine m_ald C hM 12 (by decide) k (t := ((k : Nat) : Int)) rfl (by show _ < 502; omega) dX12_entries_141 ?_
                refine z_callVX C (As := [zV (bI true), zN 6, .int (σ.2.1 12 k)]) (rest := []) (c_X12_must l Z hM true (zI 6) (σ.2.1 12 k)) hM.1 rfl ⟨⟨zw_26_16, zw_1_5, zw_26_13⟩, zd_X12_must⟩ zw_26_14 zw_26_15 ⟨Nat.le_of_ble_eq_true rfl, Nat.le_of_ble_eq_true rfl⟩ ⟨rfl, rfl⟩ rfl hl.1 rfl (Nat.le_of_ble_eq_true rfl) dX12_entries_142 ⟨Nat.zero_le _, Nat.zero_le _⟩ hS (fun _ h => h) (fun H9 locs9 q9 ce9 hp9 hS9 _ _ g1 g2 g3 => ?_) (fun v H locs hp hS _ _ => ?_)
                · exact absurd hp9.1 (by decide)
                obtain ⟨-, rfl, hM⟩ := hp
                refine lv_iinc (v := zI ((k + 1 : Nat) : Int)) (lv' := [(1, zN (k + 1)), (4, zN 1), (3, .int (σ.2.1 14 k)), (2, .int (σ.2.1 13 k)), (0, .ref o)]) C.1 C.2.1 dX12_entries_145 hl (k := 3) rfl (zI_add _ _) (by decide) rfl (fun ls hl => ?_)
                refine lv_goto (tgt := 2) C.1 C.2.1 dX12_entries_148 (by decide) ?_
                exact ih (k + 1) _ ls _ hS hM (by omega) (by rw [← hx, hu, fst1_s (by unfold g6; rw [if_pos (by unfold good6; rw [if_neg (by omega), if_neg (by omega), if_neg (by omega)])])]; rw [show U2 F 8 - (k + 1) = U2 F 8 - k - 1 by omega]) (lv_sub hl [0, 4] rfl)
              · obtain ⟨ht1, ht2, ht3⟩ := hL.ent (show k < 502 by omega) (show tg F tb k ≠ 0 by omega)
                have he := ht3.2.2.2.2.2.2.2.1 (by omega)
                have hU1 : e1 F tb k < 65536 := U2_lt hB.1 _
                have hU2 : e2 F tb k < 65536 := U2_lt hB.1 _
                refine lv_aload_n C.1 C.2.1 dX12_entries_104 rfl (lv_at hl 4 rfl) ?_
                refine lv_iload_n C.1 C.2.1 dX12_entries_105 rfl (lv_at hl 2 rfl) ?_
                refine z_re (y := zI ((e1 F tb k : Nat) : Int)) he.1 ?_
                refine lv_bipush (v := zI 7) C.1 C.2.1 dX12_entries_106 (by decide) ?_
                refine z_readV C (As := [zN (e1 F tb k), zN 7]) (rest := []) (c_X12_isEntry l Z hM hB hL (e1 F tb k) 7 rfl (by omega) (by omega)) hM.1 rfl ⟨⟨zw_28_18, zw_1_5, zw_28_15⟩, zd_X12_isEntry⟩ zw_28_16 zw_28_17 ⟨Nat.le_of_ble_eq_true rfl, Nat.le_of_ble_eq_true rfl⟩ ⟨rfl, rfl⟩ rfl hl.1 rfl (Nat.le_of_ble_eq_true rfl) dX12_entries_108 ⟨Nat.zero_le _, Nat.zero_le _⟩ hS (fun locs hS => ?_)
                refine y_ifb_eq (tgt := 128) C dX12_entries_111 (by decide) (fun h111 => ?_) (fun h111 => ?_)
                · refine lv_iconst (v := zI 0) C.1 C.2.1 dX12_entries_128 (by decide) ?_
                  refine lv_istore (lv' := [(4, zN 0), (3, .int (σ.2.1 14 k)), (2, .int (σ.2.1 13 k)), (1, zN k), (0, .ref o)]) C.1 C.2.1 dX12_entries_129 hl (by decide) rfl (fun ls hl => ?_)
                  refine lv_aload_n C.1 C.2.1 dX12_entries_131 rfl (lv_at hl 4 rfl) ?_
                  refine lv_iload C.1 C.2.1 dX12_entries_132 (lv_at hl 0 rfl) ?_
                  refine lv_bipush (v := zI 6) C.1 C.2.1 dX12_entries_134 (by decide) ?_
                  refine lv_aload_n C.1 C.2.1 dX12_entries_136 rfl (lv_at hl 4 rfl) ?_
                  refine m_get C hM 12 (v := .ref (ad 12)) (by decide) zw_4_23 rfl rfl dX12_entries_137 ?_
                  refine lv_iload_n C.1 C.2.1 dX12_entries_140 rfl (lv_at hl 3 rfl) ?_
                  refine m_ald C hM 12 (by decide) k (t := ((k : Nat) : Int)) rfl (by show _ < 502; omega) dX12_entries_141 ?_
                  refine z_callVX C (As := [zV (bI false), zN 6, .int (σ.2.1 12 k)]) (rest := []) (c_X12_must l Z hM false (zI 6) (σ.2.1 12 k)) hM.1 rfl ⟨⟨zw_26_16, zw_1_5, zw_26_13⟩, zd_X12_must⟩ zw_26_14 zw_26_15 ⟨Nat.le_of_ble_eq_true rfl, Nat.le_of_ble_eq_true rfl⟩ ⟨rfl, rfl⟩ rfl hl.1 rfl (Nat.le_of_ble_eq_true rfl) dX12_entries_142 ⟨Nat.zero_le _, Nat.zero_le _⟩ hS (fun _ h => h) (fun H9 locs9 q9 ce9 hp9 hS9 _ _ g1 g2 g3 => ?_) (fun v H locs hp hS _ _ => ?_)
                  · exact hth _ _ _ _ _ _ _ hS9 (⟨tb k, (by rw [← hx, hu]; exact fst1_e (by unfold g6; rw [if_neg (by rw [show good6 F tb (U2 F 8) k = false from (by unfold good6; rw [if_neg (by omega), if_neg (by omega), if_pos (by omega)]; simp [*])]; decide)])), ⟨_, hp9.2, rfl, ht3.2.2.1, (chg_sx (by decide) (chg_sx (by decide) chg.rf))⟩⟩) g1 g2 g3
                  exact absurd hp.1 (by decide)
                · refine lv_aload_n C.1 C.2.1 dX12_entries_114 rfl (lv_at hl 4 rfl) ?_
                  refine lv_iload_n C.1 C.2.1 dX12_entries_115 rfl (lv_at hl 1 rfl) ?_
                  refine z_re (y := zI ((e2 F tb k : Nat) : Int)) he.2.1 ?_
                  refine lv_bipush (v := zI 12) C.1 C.2.1 dX12_entries_116 (by decide) ?_
                  refine z_readV C (As := [zN (e2 F tb k), zN 12]) (rest := []) (c_X12_isEntry l Z hM hB hL (e2 F tb k) 12 rfl (by omega) (by omega)) hM.1 rfl ⟨⟨zw_28_18, zw_1_5, zw_28_15⟩, zd_X12_isEntry⟩ zw_28_16 zw_28_17 ⟨Nat.le_of_ble_eq_true rfl, Nat.le_of_ble_eq_true rfl⟩ ⟨rfl, rfl⟩ rfl hl.1 rfl (Nat.le_of_ble_eq_true rfl) dX12_entries_118 ⟨Nat.zero_le _, Nat.zero_le _⟩ hS (fun locs hS => ?_)
                  refine y_ifb_eq (tgt := 128) C dX12_entries_121 (by decide) (fun h121 => ?_) (fun h121 => ?_)
                  · refine lv_iconst (v := zI 0) C.1 C.2.1 dX12_entries_128 (by decide) ?_
                    refine lv_istore (lv' := [(4, zN 0), (3, .int (σ.2.1 14 k)), (2, .int (σ.2.1 13 k)), (1, zN k), (0, .ref o)]) C.1 C.2.1 dX12_entries_129 hl (by decide) rfl (fun ls hl => ?_)
                    refine lv_aload_n C.1 C.2.1 dX12_entries_131 rfl (lv_at hl 4 rfl) ?_
                    refine lv_iload C.1 C.2.1 dX12_entries_132 (lv_at hl 0 rfl) ?_
                    refine lv_bipush (v := zI 6) C.1 C.2.1 dX12_entries_134 (by decide) ?_
                    refine lv_aload_n C.1 C.2.1 dX12_entries_136 rfl (lv_at hl 4 rfl) ?_
                    refine m_get C hM 12 (v := .ref (ad 12)) (by decide) zw_4_23 rfl rfl dX12_entries_137 ?_
                    refine lv_iload_n C.1 C.2.1 dX12_entries_140 rfl (lv_at hl 3 rfl) ?_
                    refine m_ald C hM 12 (by decide) k (t := ((k : Nat) : Int)) rfl (by show _ < 502; omega) dX12_entries_141 ?_
                    refine z_callVX C (As := [zV (bI false), zN 6, .int (σ.2.1 12 k)]) (rest := []) (c_X12_must l Z hM false (zI 6) (σ.2.1 12 k)) hM.1 rfl ⟨⟨zw_26_16, zw_1_5, zw_26_13⟩, zd_X12_must⟩ zw_26_14 zw_26_15 ⟨Nat.le_of_ble_eq_true rfl, Nat.le_of_ble_eq_true rfl⟩ ⟨rfl, rfl⟩ rfl hl.1 rfl (Nat.le_of_ble_eq_true rfl) dX12_entries_142 ⟨Nat.zero_le _, Nat.zero_le _⟩ hS (fun _ h => h) (fun H9 locs9 q9 ce9 hp9 hS9 _ _ g1 g2 g3 => ?_) (fun v H locs hp hS _ _ => ?_)
                    · exact hth _ _ _ _ _ _ _ hS9 (⟨tb k, (by rw [← hx, hu]; exact fst1_e (by unfold g6; rw [if_neg (by rw [show good6 F tb (U2 F 8) k = false from (by unfold good6; rw [if_neg (by omega), if_neg (by omega), if_pos (by omega)]; simp [*])]; decide)])), ⟨_, hp9.2, rfl, ht3.2.2.1, (chg_sx (by decide) (chg_sx (by decide) chg.rf))⟩⟩) g1 g2 g3
                    exact absurd hp.1 (by decide)
                  · refine lv_iconst (v := zI 1) C.1 C.2.1 dX12_entries_124 (by decide) ?_
                    refine lv_goto (tgt := 129) C.1 C.2.1 dX12_entries_125 (by decide) ?_
                    refine lv_istore (lv' := [(4, zN 1), (3, .int (σ.2.1 14 k)), (2, .int (σ.2.1 13 k)), (1, zN k), (0, .ref o)]) C.1 C.2.1 dX12_entries_129 hl (by decide) rfl (fun ls hl => ?_)
                    refine lv_aload_n C.1 C.2.1 dX12_entries_131 rfl (lv_at hl 4 rfl) ?_
                    refine lv_iload C.1 C.2.1 dX12_entries_132 (lv_at hl 0 rfl) ?_
                    refine lv_bipush (v := zI 6) C.1 C.2.1 dX12_entries_134 (by decide) ?_
                    refine lv_aload_n C.1 C.2.1 dX12_entries_136 rfl (lv_at hl 4 rfl) ?_
                    refine m_get C hM 12 (v := .ref (ad 12)) (by decide) zw_4_23 rfl rfl dX12_entries_137 ?_
                    refine lv_iload_n C.1 C.2.1 dX12_entries_140 rfl (lv_at hl 3 rfl) ?_
                    refine m_ald C hM 12 (by decide) k (t := ((k : Nat) : Int)) rfl (by show _ < 502; omega) dX12_entries_141 ?_
                    refine z_callVX C (As := [zV (bI true), zN 6, .int (σ.2.1 12 k)]) (rest := []) (c_X12_must l Z hM true (zI 6) (σ.2.1 12 k)) hM.1 rfl ⟨⟨zw_26_16, zw_1_5, zw_26_13⟩, zd_X12_must⟩ zw_26_14 zw_26_15 ⟨Nat.le_of_ble_eq_true rfl, Nat.le_of_ble_eq_true rfl⟩ ⟨rfl, rfl⟩ rfl hl.1 rfl (Nat.le_of_ble_eq_true rfl) dX12_entries_142 ⟨Nat.zero_le _, Nat.zero_le _⟩ hS (fun _ h => h) (fun H9 locs9 q9 ce9 hp9 hS9 _ _ g1 g2 g3 => ?_) (fun v H locs hp hS _ _ => ?_)
                    · exact absurd hp9.1 (by decide)
                    obtain ⟨-, rfl, hM⟩ := hp
                    refine lv_iinc (v := zI ((k + 1 : Nat) : Int)) (lv' := [(1, zN (k + 1)), (4, zN 1), (3, .int (σ.2.1 14 k)), (2, .int (σ.2.1 13 k)), (0, .ref o)]) C.1 C.2.1 dX12_entries_145 hl (k := 3) rfl (zI_add _ _) (by decide) rfl (fun ls hl => ?_)
                    refine lv_goto (tgt := 2) C.1 C.2.1 dX12_entries_148 (by decide) ?_
                    exact ih (k + 1) _ ls _ hS hM (by omega) (by rw [← hx, hu, fst1_s (by unfold g6; rw [if_pos (by unfold good6; rw [if_neg (by omega), if_neg (by omega), if_pos (by omega)]; simp [*])])]; rw [show U2 F 8 - (k + 1) = U2 F 8 - k - 1 by omega]) (lv_sub hl [0, 4] rfl)
          · obtain ⟨ht1, ht2, ht3⟩ := hL.ent (show k < 502 by omega) (show tg F tb k ≠ 0 by omega)
            have he := ht3.2.2.2.2.2.2.2.1 (by omega)
            have hU1 : e1 F tb k < 65536 := U2_lt hB.1 _
            have hU2 : e2 F tb k < 65536 := U2_lt hB.1 _
            refine lv_aload_n C.1 C.2.1 dX12_entries_57 rfl (lv_at hl 4 rfl) ?_
            refine lv_iload_n C.1 C.2.1 dX12_entries_58 rfl (lv_at hl 2 rfl) ?_
            refine z_re (y := zI ((e1 F tb k : Nat) : Int)) he.1 ?_
            refine lv_iconst (v := zI 1) C.1 C.2.1 dX12_entries_59 (by decide) ?_
            refine z_readV C (As := [zN (e1 F tb k), zN 1]) (rest := []) (c_X12_isEntry l Z hM hB hL (e1 F tb k) 1 rfl (by omega) (by omega)) hM.1 rfl ⟨⟨zw_28_18, zw_1_5, zw_28_15⟩, zd_X12_isEntry⟩ zw_28_16 zw_28_17 ⟨Nat.le_of_ble_eq_true rfl, Nat.le_of_ble_eq_true rfl⟩ ⟨rfl, rfl⟩ rfl hl.1 rfl (Nat.le_of_ble_eq_true rfl) dX12_entries_60 ⟨Nat.zero_le _, Nat.zero_le _⟩ hS (fun locs hS => ?_)
            refine y_ifb_eq (tgt := 79) C dX12_entries_63 (by decide) (fun h63 => ?_) (fun h63 => ?_)
            · refine lv_iconst (v := zI 0) C.1 C.2.1 dX12_entries_79 (by decide) ?_
              refine lv_istore (lv' := [(4, zN 0), (3, .int (σ.2.1 14 k)), (2, .int (σ.2.1 13 k)), (1, zN k), (0, .ref o)]) C.1 C.2.1 dX12_entries_80 hl (by decide) rfl (fun ls hl => ?_)
              refine lv_aload_n C.1 C.2.1 dX12_entries_82 rfl (lv_at hl 4 rfl) ?_
              refine m_get C hM 11 (v := .ref (ad 11)) (by decide) zw_4_22 rfl rfl dX12_entries_83 ?_
              refine lv_iload_n C.1 C.2.1 dX12_entries_86 rfl (lv_at hl 3 rfl) ?_
              refine m_ald C hM 11 (by decide) k (t := ((k : Nat) : Int)) rfl (by show _ < 502; omega) dX12_entries_87 ?_
              refine z_re (y := zI ((tg F tb k : Nat) : Int)) (hL.tag (show k < 502 by omega)) ?_
              refine lv_bipush (v := zI 9) C.1 C.2.1 dX12_entries_88 (by decide) ?_
              refine y_icmp_eq (tgt := 104) C (a := ((tg F tb k : Nat) : Int)) (b := 9) dX12_entries_90 (by decide) (by omega) (fun h90 => ?_) (fun h90 => ?_)
              · exact absurd h90 (by omega)
              · refine lv_aload_n C.1 C.2.1 dX12_entries_93 rfl (lv_at hl 4 rfl) ?_
                refine m_get C hM 11 (v := .ref (ad 11)) (by decide) zw_4_22 rfl rfl dX12_entries_94 ?_
                refine lv_iload_n C.1 C.2.1 dX12_entries_97 rfl (lv_at hl 3 rfl) ?_
                refine m_ald C hM 11 (by decide) k (t := ((k : Nat) : Int)) rfl (by show _ < 502; omega) dX12_entries_98 ?_
                refine z_re (y := zI ((tg F tb k : Nat) : Int)) (hL.tag (show k < 502 by omega)) ?_
                refine lv_bipush (v := zI 10) C.1 C.2.1 dX12_entries_99 (by decide) ?_
                refine y_icmp_ne (tgt := 131) C (a := ((tg F tb k : Nat) : Int)) (b := 10) dX12_entries_101 (by decide) (by omega) (fun h101 => ?_) (fun h101 => ?_)
                · refine lv_aload_n C.1 C.2.1 dX12_entries_131 rfl (lv_at hl 4 rfl) ?_
                  refine lv_iload C.1 C.2.1 dX12_entries_132 (lv_at hl 0 rfl) ?_
                  refine lv_bipush (v := zI 6) C.1 C.2.1 dX12_entries_134 (by decide) ?_
                  refine lv_aload_n C.1 C.2.1 dX12_entries_136 rfl (lv_at hl 4 rfl) ?_
                  refine m_get C hM 12 (v := .ref (ad 12)) (by decide) zw_4_23 rfl rfl dX12_entries_137 ?_
                  refine lv_iload_n C.1 C.2.1 dX12_entries_140 rfl (lv_at hl 3 rfl) ?_
                  refine m_ald C hM 12 (by decide) k (t := ((k : Nat) : Int)) rfl (by show _ < 502; omega) dX12_entries_141 ?_
                  refine z_callVX C (As := [zV (bI false), zN 6, .int (σ.2.1 12 k)]) (rest := []) (c_X12_must l Z hM false (zI 6) (σ.2.1 12 k)) hM.1 rfl ⟨⟨zw_26_16, zw_1_5, zw_26_13⟩, zd_X12_must⟩ zw_26_14 zw_26_15 ⟨Nat.le_of_ble_eq_true rfl, Nat.le_of_ble_eq_true rfl⟩ ⟨rfl, rfl⟩ rfl hl.1 rfl (Nat.le_of_ble_eq_true rfl) dX12_entries_142 ⟨Nat.zero_le _, Nat.zero_le _⟩ hS (fun _ h => h) (fun H9 locs9 q9 ce9 hp9 hS9 _ _ g1 g2 g3 => ?_) (fun v H locs hp hS _ _ => ?_)
                  · exact hth _ _ _ _ _ _ _ hS9 (⟨tb k, (by rw [← hx, hu]; exact fst1_e (by unfold g6; rw [if_neg (by rw [show good6 F tb (U2 F 8) k = false from (by unfold good6; rw [if_neg (by omega), if_pos (by omega)]; simp [*])]; decide)])), ⟨_, hp9.2, rfl, ht3.2.2.1, (chg_sx (by decide) (chg_sx (by decide) chg.rf))⟩⟩) g1 g2 g3
                  exact absurd hp.1 (by decide)
                · exact absurd h101 (by omega)
            · refine lv_aload_n C.1 C.2.1 dX12_entries_66 rfl (lv_at hl 4 rfl) ?_
              refine lv_iload_n C.1 C.2.1 dX12_entries_67 rfl (lv_at hl 1 rfl) ?_
              refine z_re (y := zI ((e2 F tb k : Nat) : Int)) he.2.1 ?_
              refine lv_iconst (v := zI 1) C.1 C.2.1 dX12_entries_68 (by decide) ?_
              refine z_readV C (As := [zN (e2 F tb k), zN 1]) (rest := []) (c_X12_isEntry l Z hM hB hL (e2 F tb k) 1 rfl (by omega) (by omega)) hM.1 rfl ⟨⟨zw_28_18, zw_1_5, zw_28_15⟩, zd_X12_isEntry⟩ zw_28_16 zw_28_17 ⟨Nat.le_of_ble_eq_true rfl, Nat.le_of_ble_eq_true rfl⟩ ⟨rfl, rfl⟩ rfl hl.1 rfl (Nat.le_of_ble_eq_true rfl) dX12_entries_69 ⟨Nat.zero_le _, Nat.zero_le _⟩ hS (fun locs hS => ?_)
              refine y_ifb_eq (tgt := 79) C dX12_entries_72 (by decide) (fun h72 => ?_) (fun h72 => ?_)
              · refine lv_iconst (v := zI 0) C.1 C.2.1 dX12_entries_79 (by decide) ?_
                refine lv_istore (lv' := [(4, zN 0), (3, .int (σ.2.1 14 k)), (2, .int (σ.2.1 13 k)), (1, zN k), (0, .ref o)]) C.1 C.2.1 dX12_entries_80 hl (by decide) rfl (fun ls hl => ?_)
                refine lv_aload_n C.1 C.2.1 dX12_entries_82 rfl (lv_at hl 4 rfl) ?_
                refine m_get C hM 11 (v := .ref (ad 11)) (by decide) zw_4_22 rfl rfl dX12_entries_83 ?_
                refine lv_iload_n C.1 C.2.1 dX12_entries_86 rfl (lv_at hl 3 rfl) ?_
                refine m_ald C hM 11 (by decide) k (t := ((k : Nat) : Int)) rfl (by show _ < 502; omega) dX12_entries_87 ?_
                refine z_re (y := zI ((tg F tb k : Nat) : Int)) (hL.tag (show k < 502 by omega)) ?_
                refine lv_bipush (v := zI 9) C.1 C.2.1 dX12_entries_88 (by decide) ?_
                refine y_icmp_eq (tgt := 104) C (a := ((tg F tb k : Nat) : Int)) (b := 9) dX12_entries_90 (by decide) (by omega) (fun h90 => ?_) (fun h90 => ?_)
                · exact absurd h90 (by omega)
                · refine lv_aload_n C.1 C.2.1 dX12_entries_93 rfl (lv_at hl 4 rfl) ?_
                  refine m_get C hM 11 (v := .ref (ad 11)) (by decide) zw_4_22 rfl rfl dX12_entries_94 ?_
                  refine lv_iload_n C.1 C.2.1 dX12_entries_97 rfl (lv_at hl 3 rfl) ?_
                  refine m_ald C hM 11 (by decide) k (t := ((k : Nat) : Int)) rfl (by show _ < 502; omega) dX12_entries_98 ?_
                  refine z_re (y := zI ((tg F tb k : Nat) : Int)) (hL.tag (show k < 502 by omega)) ?_
                  refine lv_bipush (v := zI 10) C.1 C.2.1 dX12_entries_99 (by decide) ?_
                  refine y_icmp_ne (tgt := 131) C (a := ((tg F tb k : Nat) : Int)) (b := 10) dX12_entries_101 (by decide) (by omega) (fun h101 => ?_) (fun h101 => ?_)
                  · refine lv_aload_n C.1 C.2.1 dX12_entries_131 rfl (lv_at hl 4 rfl) ?_
                    refine lv_iload C.1 C.2.1 dX12_entries_132 (lv_at hl 0 rfl) ?_
                    refine lv_bipush (v := zI 6) C.1 C.2.1 dX12_entries_134 (by decide) ?_
                    refine lv_aload_n C.1 C.2.1 dX12_entries_136 rfl (lv_at hl 4 rfl) ?_
                    refine m_get C hM 12 (v := .ref (ad 12)) (by decide) zw_4_23 rfl rfl dX12_entries_137 ?_
                    refine lv_iload_n C.1 C.2.1 dX12_entries_140 rfl (lv_at hl 3 rfl) ?_
                    refine m_ald C hM 12 (by decide) k (t := ((k : Nat) : Int)) rfl (by show _ < 502; omega) dX12_entries_141 ?_
                    refine z_callVX C (As := [zV (bI false), zN 6, .int (σ.2.1 12 k)]) (rest := []) (c_X12_must l Z hM false (zI 6) (σ.2.1 12 k)) hM.1 rfl ⟨⟨zw_26_16, zw_1_5, zw_26_13⟩, zd_X12_must⟩ zw_26_14 zw_26_15 ⟨Nat.le_of_ble_eq_true rfl, Nat.le_of_ble_eq_true rfl⟩ ⟨rfl, rfl⟩ rfl hl.1 rfl (Nat.le_of_ble_eq_true rfl) dX12_entries_142 ⟨Nat.zero_le _, Nat.zero_le _⟩ hS (fun _ h => h) (fun H9 locs9 q9 ce9 hp9 hS9 _ _ g1 g2 g3 => ?_) (fun v H locs hp hS _ _ => ?_)
                    · exact hth _ _ _ _ _ _ _ hS9 (⟨tb k, (by rw [← hx, hu]; exact fst1_e (by unfold g6; rw [if_neg (by rw [show good6 F tb (U2 F 8) k = false from (by unfold good6; rw [if_neg (by omega), if_pos (by omega)]; simp [*])]; decide)])), ⟨_, hp9.2, rfl, ht3.2.2.1, (chg_sx (by decide) (chg_sx (by decide) chg.rf))⟩⟩) g1 g2 g3
                    exact absurd hp.1 (by decide)
                  · exact absurd h101 (by omega)
              · refine lv_iconst (v := zI 1) C.1 C.2.1 dX12_entries_75 (by decide) ?_
                refine lv_goto (tgt := 80) C.1 C.2.1 dX12_entries_76 (by decide) ?_
                refine lv_istore (lv' := [(4, zN 1), (3, .int (σ.2.1 14 k)), (2, .int (σ.2.1 13 k)), (1, zN k), (0, .ref o)]) C.1 C.2.1 dX12_entries_80 hl (by decide) rfl (fun ls hl => ?_)
                refine lv_aload_n C.1 C.2.1 dX12_entries_82 rfl (lv_at hl 4 rfl) ?_
                refine m_get C hM 11 (v := .ref (ad 11)) (by decide) zw_4_22 rfl rfl dX12_entries_83 ?_
                refine lv_iload_n C.1 C.2.1 dX12_entries_86 rfl (lv_at hl 3 rfl) ?_
                refine m_ald C hM 11 (by decide) k (t := ((k : Nat) : Int)) rfl (by show _ < 502; omega) dX12_entries_87 ?_
                refine z_re (y := zI ((tg F tb k : Nat) : Int)) (hL.tag (show k < 502 by omega)) ?_
                refine lv_bipush (v := zI 9) C.1 C.2.1 dX12_entries_88 (by decide) ?_
                refine y_icmp_eq (tgt := 104) C (a := ((tg F tb k : Nat) : Int)) (b := 9) dX12_entries_90 (by decide) (by omega) (fun h90 => ?_) (fun h90 => ?_)
                · exact absurd h90 (by omega)
                · refine lv_aload_n C.1 C.2.1 dX12_entries_93 rfl (lv_at hl 4 rfl) ?_
                  refine m_get C hM 11 (v := .ref (ad 11)) (by decide) zw_4_22 rfl rfl dX12_entries_94 ?_
                  refine lv_iload_n C.1 C.2.1 dX12_entries_97 rfl (lv_at hl 3 rfl) ?_
                  refine m_ald C hM 11 (by decide) k (t := ((k : Nat) : Int)) rfl (by show _ < 502; omega) dX12_entries_98 ?_
                  refine z_re (y := zI ((tg F tb k : Nat) : Int)) (hL.tag (show k < 502 by omega)) ?_
                  refine lv_bipush (v := zI 10) C.1 C.2.1 dX12_entries_99 (by decide) ?_
                  refine y_icmp_ne (tgt := 131) C (a := ((tg F tb k : Nat) : Int)) (b := 10) dX12_entries_101 (by decide) (by omega) (fun h101 => ?_) (fun h101 => ?_)
                  · refine lv_aload_n C.1 C.2.1 dX12_entries_131 rfl (lv_at hl 4 rfl) ?_
                    refine lv_iload C.1 C.2.1 dX12_entries_132 (lv_at hl 0 rfl) ?_
                    refine lv_bipush (v := zI 6) C.1 C.2.1 dX12_entries_134 (by decide) ?_
                    refine lv_aload_n C.1 C.2.1 dX12_entries_136 rfl (lv_at hl 4 rfl) ?_
                    refine m_get C hM 12 (v := .ref (ad 12)) (by decide) zw_4_23 rfl rfl dX12_entries_137 ?_
                    refine lv_iload_n C.1 C.2.1 dX12_entries_140 rfl (lv_at hl 3 rfl) ?_
                    refine m_ald C hM 12 (by decide) k (t := ((k : Nat) : Int)) rfl (by show _ < 502; omega) dX12_entries_141 ?_
                    refine z_callVX C (As := [zV (bI true), zN 6, .int (σ.2.1 12 k)]) (rest := []) (c_X12_must l Z hM true (zI 6) (σ.2.1 12 k)) hM.1 rfl ⟨⟨zw_26_16, zw_1_5, zw_26_13⟩, zd_X12_must⟩ zw_26_14 zw_26_15 ⟨Nat.le_of_ble_eq_true rfl, Nat.le_of_ble_eq_true rfl⟩ ⟨rfl, rfl⟩ rfl hl.1 rfl (Nat.le_of_ble_eq_true rfl) dX12_entries_142 ⟨Nat.zero_le _, Nat.zero_le _⟩ hS (fun _ h => h) (fun H9 locs9 q9 ce9 hp9 hS9 _ _ g1 g2 g3 => ?_) (fun v H locs hp hS _ _ => ?_)
                    · exact absurd hp9.1 (by decide)
                    obtain ⟨-, rfl, hM⟩ := hp
                    refine lv_iinc (v := zI ((k + 1 : Nat) : Int)) (lv' := [(1, zN (k + 1)), (4, zN 1), (3, .int (σ.2.1 14 k)), (2, .int (σ.2.1 13 k)), (0, .ref o)]) C.1 C.2.1 dX12_entries_145 hl (k := 3) rfl (zI_add _ _) (by decide) rfl (fun ls hl => ?_)
                    refine lv_goto (tgt := 2) C.1 C.2.1 dX12_entries_148 (by decide) ?_
                    exact ih (k + 1) _ ls _ hS hM (by omega) (by rw [← hx, hu, fst1_s (by unfold g6; rw [if_pos (by unfold good6; rw [if_neg (by omega), if_pos (by omega)]; simp [*])])]; rw [show U2 F 8 - (k + 1) = U2 F 8 - k - 1 by omega]) (lv_sub hl [0, 4] rfl)
                  · exact absurd h101 (by omega)
        · obtain ⟨ht1, ht2, ht3⟩ := hL.ent (show k < 502 by omega) (show tg F tb k ≠ 0 by omega)
          have he := ht3.2.2.2.2.2.2.1 (by omega)
          have hU1 : e1 F tb k < 65536 := U2_lt hB.1 _
          have hU2 : e2 F tb k < 65536 := U2_lt hB.1 _
          refine lv_aload_n C.1 C.2.1 dX12_entries_38 rfl (lv_at hl 4 rfl) ?_
          refine lv_iload_n C.1 C.2.1 dX12_entries_39 rfl (lv_at hl 2 rfl) ?_
          refine z_re (y := zI ((e1 F tb k : Nat) : Int)) he.1 ?_
          refine lv_iconst (v := zI 1) C.1 C.2.1 dX12_entries_40 (by decide) ?_
          refine z_readV C (As := [zN (e1 F tb k), zN 1]) (rest := []) (c_X12_isEntry l Z hM hB hL (e1 F tb k) 1 rfl (by omega) (by omega)) hM.1 rfl ⟨⟨zw_28_18, zw_1_5, zw_28_15⟩, zd_X12_isEntry⟩ zw_28_16 zw_28_17 ⟨Nat.le_of_ble_eq_true rfl, Nat.le_of_ble_eq_true rfl⟩ ⟨rfl, rfl⟩ rfl hl.1 rfl (Nat.le_of_ble_eq_true rfl) dX12_entries_41 ⟨Nat.zero_le _, Nat.zero_le _⟩ hS (fun locs hS => ?_)
          refine lv_istore (lv' := [(4, zV (bI (isE F tb (U2 F 8) (e1 F tb k) 1))), (3, .int (σ.2.1 14 k)), (2, .int (σ.2.1 13 k)), (1, zN k), (0, .ref o)]) C.1 C.2.1 dX12_entries_44 hl (by decide) rfl (fun ls hl => ?_)
          refine lv_aload_n C.1 C.2.1 dX12_entries_46 rfl (lv_at hl 4 rfl) ?_
          refine m_get C hM 11 (v := .ref (ad 11)) (by decide) zw_4_22 rfl rfl dX12_entries_47 ?_
          refine lv_iload_n C.1 C.2.1 dX12_entries_50 rfl (lv_at hl 3 rfl) ?_
          refine m_ald C hM 11 (by decide) k (t := ((k : Nat) : Int)) rfl (by show _ < 502; omega) dX12_entries_51 ?_
          refine z_re (y := zI ((tg F tb k : Nat) : Int)) (hL.tag (show k < 502 by omega)) ?_
          refine lv_bipush (v := zI 12) C.1 C.2.1 dX12_entries_52 (by decide) ?_
          refine y_icmp_ne (tgt := 82) C (a := ((tg F tb k : Nat) : Int)) (b := 12) dX12_entries_54 (by decide) (by omega) (fun h54 => ?_) (fun h54 => ?_)
          · refine lv_aload_n C.1 C.2.1 dX12_entries_82 rfl (lv_at hl 4 rfl) ?_
            refine m_get C hM 11 (v := .ref (ad 11)) (by decide) zw_4_22 rfl rfl dX12_entries_83 ?_
            refine lv_iload_n C.1 C.2.1 dX12_entries_86 rfl (lv_at hl 3 rfl) ?_
            refine m_ald C hM 11 (by decide) k (t := ((k : Nat) : Int)) rfl (by show _ < 502; omega) dX12_entries_87 ?_
            refine z_re (y := zI ((tg F tb k : Nat) : Int)) (hL.tag (show k < 502 by omega)) ?_
            refine lv_bipush (v := zI 9) C.1 C.2.1 dX12_entries_88 (by decide) ?_
            refine y_icmp_eq (tgt := 104) C (a := ((tg F tb k : Nat) : Int)) (b := 9) dX12_entries_90 (by decide) (by omega) (fun h90 => ?_) (fun h90 => ?_)
            · exact absurd h90 (by omega)
            · refine lv_aload_n C.1 C.2.1 dX12_entries_93 rfl (lv_at hl 4 rfl) ?_
              refine m_get C hM 11 (v := .ref (ad 11)) (by decide) zw_4_22 rfl rfl dX12_entries_94 ?_
              refine lv_iload_n C.1 C.2.1 dX12_entries_97 rfl (lv_at hl 3 rfl) ?_
              refine m_ald C hM 11 (by decide) k (t := ((k : Nat) : Int)) rfl (by show _ < 502; omega) dX12_entries_98 ?_
              refine z_re (y := zI ((tg F tb k : Nat) : Int)) (hL.tag (show k < 502 by omega)) ?_
              refine lv_bipush (v := zI 10) C.1 C.2.1 dX12_entries_99 (by decide) ?_
              refine y_icmp_ne (tgt := 131) C (a := ((tg F tb k : Nat) : Int)) (b := 10) dX12_entries_101 (by decide) (by omega) (fun h101 => ?_) (fun h101 => ?_)
              · refine lv_aload_n C.1 C.2.1 dX12_entries_131 rfl (lv_at hl 4 rfl) ?_
                refine lv_iload C.1 C.2.1 dX12_entries_132 (lv_at hl 0 rfl) ?_
                refine lv_bipush (v := zI 6) C.1 C.2.1 dX12_entries_134 (by decide) ?_
                refine lv_aload_n C.1 C.2.1 dX12_entries_136 rfl (lv_at hl 4 rfl) ?_
                refine m_get C hM 12 (v := .ref (ad 12)) (by decide) zw_4_23 rfl rfl dX12_entries_137 ?_
                refine lv_iload_n C.1 C.2.1 dX12_entries_140 rfl (lv_at hl 3 rfl) ?_
                refine m_ald C hM 12 (by decide) k (t := ((k : Nat) : Int)) rfl (by show _ < 502; omega) dX12_entries_141 ?_
                refine z_callVX C (As := [zV (bI (isE F tb (U2 F 8) (e1 F tb k) 1)), zN 6, .int (σ.2.1 12 k)]) (rest := []) (c_X12_must l Z hM (isE F tb (U2 F 8) (e1 F tb k) 1) (zI 6) (σ.2.1 12 k)) hM.1 rfl ⟨⟨zw_26_16, zw_1_5, zw_26_13⟩, zd_X12_must⟩ zw_26_14 zw_26_15 ⟨Nat.le_of_ble_eq_true rfl, Nat.le_of_ble_eq_true rfl⟩ ⟨rfl, rfl⟩ rfl hl.1 rfl (Nat.le_of_ble_eq_true rfl) dX12_entries_142 ⟨Nat.zero_le _, Nat.zero_le _⟩ hS (fun _ h => h) (fun H9 locs9 q9 ce9 hp9 hS9 _ _ g1 g2 g3 => ?_) (fun v H locs hp hS _ _ => ?_)
                · exact hth _ _ _ _ _ _ _ hS9 (⟨tb k, (by rw [← hx, hu]; exact fst1_e (by unfold g6; rw [if_neg (by rw [show good6 F tb (U2 F 8) k = false from (by unfold good6; rw [if_pos (by omega)]; exact hp9.1)]; decide)])), ⟨_, hp9.2, rfl, ht3.2.2.1, (chg_sx (by decide) (chg_sx (by decide) chg.rf))⟩⟩) g1 g2 g3
                obtain ⟨hb142, rfl, hM⟩ := hp
                refine lv_iinc (v := zI ((k + 1 : Nat) : Int)) (lv' := [(1, zN (k + 1)), (4, zV (bI (isE F tb (U2 F 8) (e1 F tb k) 1))), (3, .int (σ.2.1 14 k)), (2, .int (σ.2.1 13 k)), (0, .ref o)]) C.1 C.2.1 dX12_entries_145 hl (k := 3) rfl (zI_add _ _) (by decide) rfl (fun ls hl => ?_)
                refine lv_goto (tgt := 2) C.1 C.2.1 dX12_entries_148 (by decide) ?_
                exact ih (k + 1) _ ls _ hS hM (by omega) (by rw [← hx, hu, fst1_s (by unfold g6; rw [if_pos (by unfold good6; rw [if_pos (by omega)]; exact hb142)])]; rw [show U2 F 8 - (k + 1) = U2 F 8 - k - 1 by omega]) (lv_sub hl [0, 4] rfl)
              · exact absurd h101 (by omega)
          · exact absurd h54 (by omega)
  exact loop (U2 F 8) 1 _ ls _ hS hM (by omega) rfl hl

set_option maxHeartbeats 4000000 in
set_option maxRecDepth 20000 in
theorem c_X12_flags (l : Launch) (Z : zT) {H : Heap} {o : Nat} {ad : Nat → Nat} {σ : mS} (hM : isM Z H o ad σ) {F : Nat → Nat} {n : Nat} (hB : mSrc σ F n) {cl nf nm fa last : Nat} {tb mt : Nat → Nat} (hL : mLay σ F n tb cl nf nm mt fa last) : zX l Z yX12_flags cX12_flags 2 none (rmk 3) [.ref o] H (mA o ad) 0 0 (fun v H' => v = none ∧ x7 F mt cl (nf + nm) = none ∧ isM Z H' o ad σ) (fun H' => ∃ w9 : Nat, x7 F mt cl (nf + nm) = some w9 ∧ mBrk Z o ad [4, 5] [] σ 7 w9 H') := by
  have hn := hB.2.2.2
  have hpc := hL.2.1
  have hcl := hL.2.2.2.2.2.1
  have hnf := hL.2.2.2.2.2.2.2.2.1
  have hnm := hL.2.2.2.2.2.2.2.2.2.1
  have hMt := hL.2.2.2.2.2.2.2.2.2.2.1
  have hna := hL.2.2.2.2.2.2.2.2.2.2.2.2.1
  have hfa := hL.2.2.2.2.2.2.2.2.2.2.2.2.2.1
  refine zX.introV (own := RX12) ⟨by decide, rfl⟩ (Nat.le_of_ble_eq_true rfl) ?_
  intro p e s m args below meth c Q ls hH C hl hth hret
  have hS : va_S (mA o ad) s.heap H [] := by rw [hH]; exact va_S.rf
  have hl : lv_has ls 2 [(0, .ref o)] := hl
  refine lv_aload_n C.1 C.2.1 dX12_flags_0 rfl (lv_at hl 0 rfl) ?_
  refine lv_aload_n C.1 C.2.1 dX12_flags_1 rfl (lv_at hl 0 rfl) ?_
  refine lv_aload_n C.1 C.2.1 dX12_flags_2 rfl (lv_at hl 0 rfl) ?_
  refine m_get C hM 16 (v := .int (σ.1 16)) (by decide) zw_26_10 rfl rfl dX12_flags_3 ?_
  refine z_re (y := zI ((cl : Nat) : Int)) hL.2.2.2.2.1 ?_
  refine z_readV C (As := [zN cl]) (rest := [.ref o]) (c_X12_two l Z hM hB cl rfl (by omega)) hM.1 rfl ⟨⟨zw_27_11, zw_1_5, zw_27_8⟩, zd_X12_two⟩ zw_27_9 zw_27_10 ⟨Nat.le_of_ble_eq_true rfl, Nat.le_of_ble_eq_true rfl⟩ ⟨rfl, rfl⟩ rfl hl.1 rfl (Nat.le_of_ble_eq_true rfl) dX12_flags_6 ⟨Nat.zero_le _, Nat.zero_le _⟩ hS (fun locs hS => ?_)
  have := U2_lt hB.1 cl
  refine lv_bipush (v := zI 33) C.1 C.2.1 dX12_flags_9 (by decide) ?_
  refine y_icmp_ne (tgt := 18) C (a := ((U2 F cl : Nat) : Int)) (b := 33) dX12_flags_11 (by decide) (by omega) (fun h11 => ?_) (fun h11 => ?_)
  · refine lv_iconst (v := zI 0) C.1 C.2.1 dX12_flags_18 (by decide) ?_
    refine lv_bipush (v := zI 7) C.1 C.2.1 dX12_flags_19 (by decide) ?_
    refine lv_aload_n C.1 C.2.1 dX12_flags_21 rfl (lv_at hl 0 rfl) ?_
    refine m_get C hM 16 (v := .int (σ.1 16)) (by decide) zw_26_10 rfl rfl dX12_flags_22 ?_
    refine z_re (y := zI ((cl : Nat) : Int)) hL.2.2.2.2.1 ?_
    refine z_callVX C (As := [zV (bI false), zN 7, zN cl]) (rest := []) (c_X12_must l Z hM false (zI 7) (zI ((cl : Nat) : Int))) hM.1 rfl ⟨⟨zw_26_16, zw_1_5, zw_26_13⟩, zd_X12_must⟩ zw_26_14 zw_26_15 ⟨Nat.le_of_ble_eq_true rfl, Nat.le_of_ble_eq_true rfl⟩ ⟨rfl, rfl⟩ rfl hl.1 rfl (Nat.le_of_ble_eq_true rfl) dX12_flags_25 ⟨Nat.zero_le _, Nat.zero_le _⟩ hS (fun _ h => h) (fun H9 locs9 q9 ce9 hp9 hS9 _ _ g1 g2 g3 => ?_) (fun v H locs hp hS _ _ => ?_)
    · exact hth _ _ _ _ _ _ _ hS9 (⟨cl, (by unfold x7; rw [if_neg (by omega)]), ⟨_, hp9.2, rfl, rfl, (chg_sx (by decide) (chg_sx (by decide) chg.rf))⟩⟩) g1 g2 g3
    exact absurd hp.1 (by decide)
  · refine lv_iconst (v := zI 1) C.1 C.2.1 dX12_flags_14 (by decide) ?_
    refine lv_goto (tgt := 19) C.1 C.2.1 dX12_flags_15 (by decide) ?_
    refine lv_bipush (v := zI 7) C.1 C.2.1 dX12_flags_19 (by decide) ?_
    refine lv_aload_n C.1 C.2.1 dX12_flags_21 rfl (lv_at hl 0 rfl) ?_
    refine m_get C hM 16 (v := .int (σ.1 16)) (by decide) zw_26_10 rfl rfl dX12_flags_22 ?_
    refine z_re (y := zI ((cl : Nat) : Int)) hL.2.2.2.2.1 ?_
    refine z_callVX C (As := [zV (bI true), zN 7, zN cl]) (rest := []) (c_X12_must l Z hM true (zI 7) (zI ((cl : Nat) : Int))) hM.1 rfl ⟨⟨zw_26_16, zw_1_5, zw_26_13⟩, zd_X12_must⟩ zw_26_14 zw_26_15 ⟨Nat.le_of_ble_eq_true rfl, Nat.le_of_ble_eq_true rfl⟩ ⟨rfl, rfl⟩ rfl hl.1 rfl (Nat.le_of_ble_eq_true rfl) dX12_flags_25 ⟨Nat.zero_le _, Nat.zero_le _⟩ hS (fun _ h => h) (fun H9 locs9 q9 ce9 hp9 hS9 _ _ g1 g2 g3 => ?_) (fun v H locs hp hS _ _ => ?_)
    · exact absurd hp9.1 (by decide)
    obtain ⟨-, rfl, hM⟩ := hp
    refine lv_iconst (v := zI 0) C.1 C.2.1 dX12_flags_28 (by decide) ?_
    refine lv_istore_n (lv' := [(1, zN 0), (0, .ref o)]) C.1 C.2.1 dX12_flags_29 rfl hl (by decide) rfl (fun ls hl => ?_)
    have loop : ∀ (fu : Nat) (i : Nat) (H : Heap) (ls : Array Slot) (locs : List Loc), va_S (mA o ad) s.heap H locs → isM Z H o ad σ → (i + fu = nf + nm + 1 ∧ i ≤ nf + nm) → (fst1 (g7 F mt) (nf + nm - i) i = x7 F mt cl (nf + nm)) → lv_has ls 2 [(1, zN i), (0, .ref o)] → W p l e (rmk 3) s m args below meth c H locs 0 0 Q (F0 m 30 ls []) := by
      intro fu
      induction fu with
      | zero =>
        intro i H ls locs hS hM hi hx hl
        omega
      | succ fu ih =>
        intro i H ls locs hS hM hi hx hl
        refine lv_iload_n C.1 C.2.1 dX12_flags_30 rfl (lv_at hl 0 rfl) ?_
        refine lv_aload_n C.1 C.2.1 dX12_flags_31 rfl (lv_at hl 1 rfl) ?_
        refine m_get C hM 17 (v := .int (σ.1 17)) (by decide) zw_25_23 rfl rfl dX12_flags_32 ?_
        refine z_re (y := zI ((nf + nm : Nat) : Int)) hL.2.2.2.2.2.2.1 ?_
        refine y_icmp_ge (tgt := 76) C (a := ((i : Nat) : Int)) (b := ((nf + nm : Nat) : Int)) dX12_flags_35 (by decide) (by omega) (fun h35 => ?_) (fun h35 => ?_)
        · exact hret _ _ _ _ hS ⟨rfl, (by rw [← hx, show nf + nm - i = 0 by omega]; rfl), hM⟩ dX12_flags_76
        · have hu : nf + nm - i = (nf + nm - i - 1) + 1 := by omega
          have hmi := (hMt i (by omega)).2.1
          refine lv_aload_n C.1 C.2.1 dX12_flags_38 rfl (lv_at hl 1 rfl) ?_
          refine lv_aload_n C.1 C.2.1 dX12_flags_39 rfl (lv_at hl 1 rfl) ?_
          refine lv_aload_n C.1 C.2.1 dX12_flags_40 rfl (lv_at hl 1 rfl) ?_
          refine m_get C hM 20 (v := .ref (ad 20)) (by decide) zw_5_4 rfl rfl dX12_flags_41 ?_
          refine lv_iload_n C.1 C.2.1 dX12_flags_44 rfl (lv_at hl 0 rfl) ?_
          refine m_ald C hM 20 (by decide) i (t := ((i : Nat) : Int)) rfl (by show _ < 48; omega) dX12_flags_45 ?_
          refine z_re (y := zI ((mt i : Nat) : Int)) ((hMt i (by omega)).1) ?_
          refine z_readV C (As := [zN (mt i)]) (rest := [.ref o]) (c_X12_two l Z hM hB (mt i) rfl (by omega)) hM.1 rfl ⟨⟨zw_27_11, zw_1_5, zw_27_8⟩, zd_X12_two⟩ zw_27_9 zw_27_10 ⟨Nat.le_of_ble_eq_true rfl, Nat.le_of_ble_eq_true rfl⟩ ⟨rfl, rfl⟩ rfl hl.1 rfl (Nat.le_of_ble_eq_true rfl) dX12_flags_46 ⟨Nat.zero_le _, Nat.zero_le _⟩ hS (fun locs hS => ?_)
          have := U2_lt hB.1 (mt i)
          refine lv_bipush (v := zI 9) C.1 C.2.1 dX12_flags_49 (by decide) ?_
          refine y_icmp_ne (tgt := 58) C (a := ((U2 F (mt i) : Nat) : Int)) (b := 9) dX12_flags_51 (by decide) (by omega) (fun h51 => ?_) (fun h51 => ?_)
          · refine lv_iconst (v := zI 0) C.1 C.2.1 dX12_flags_58 (by decide) ?_
            refine lv_bipush (v := zI 7) C.1 C.2.1 dX12_flags_59 (by decide) ?_
            refine lv_aload_n C.1 C.2.1 dX12_flags_61 rfl (lv_at hl 1 rfl) ?_
            refine m_get C hM 20 (v := .ref (ad 20)) (by decide) zw_5_4 rfl rfl dX12_flags_62 ?_
            refine lv_iload_n C.1 C.2.1 dX12_flags_65 rfl (lv_at hl 0 rfl) ?_
            refine m_ald C hM 20 (by decide) i (t := ((i : Nat) : Int)) rfl (by show _ < 48; omega) dX12_flags_66 ?_
            refine z_re (y := zI ((mt i : Nat) : Int)) ((hMt i (by omega)).1) ?_
            refine z_callVX C (As := [zV (bI false), zN 7, zN (mt i)]) (rest := []) (c_X12_must l Z hM false (zI 7) (zI ((mt i : Nat) : Int))) hM.1 rfl ⟨⟨zw_26_16, zw_1_5, zw_26_13⟩, zd_X12_must⟩ zw_26_14 zw_26_15 ⟨Nat.le_of_ble_eq_true rfl, Nat.le_of_ble_eq_true rfl⟩ ⟨rfl, rfl⟩ rfl hl.1 rfl (Nat.le_of_ble_eq_true rfl) dX12_flags_67 ⟨Nat.zero_le _, Nat.zero_le _⟩ hS (fun _ h => h) (fun H9 locs9 q9 ce9 hp9 hS9 _ _ g1 g2 g3 => ?_) (fun v H locs hp hS _ _ => ?_)
            · exact hth _ _ _ _ _ _ _ hS9 (⟨mt i, (by rw [← hx, hu]; exact fst1_e (by unfold g7; rw [if_neg (by omega)])), ⟨_, hp9.2, rfl, rfl, (chg_sx (by decide) (chg_sx (by decide) chg.rf))⟩⟩) g1 g2 g3
            exact absurd hp.1 (by decide)
          · refine lv_iconst (v := zI 1) C.1 C.2.1 dX12_flags_54 (by decide) ?_
            refine lv_goto (tgt := 59) C.1 C.2.1 dX12_flags_55 (by decide) ?_
            refine lv_bipush (v := zI 7) C.1 C.2.1 dX12_flags_59 (by decide) ?_
            refine lv_aload_n C.1 C.2.1 dX12_flags_61 rfl (lv_at hl 1 rfl) ?_
            refine m_get C hM 20 (v := .ref (ad 20)) (by decide) zw_5_4 rfl rfl dX12_flags_62 ?_
            refine lv_iload_n C.1 C.2.1 dX12_flags_65 rfl (lv_at hl 0 rfl) ?_
            refine m_ald C hM 20 (by decide) i (t := ((i : Nat) : Int)) rfl (by show _ < 48; omega) dX12_flags_66 ?_
            refine z_re (y := zI ((mt i : Nat) : Int)) ((hMt i (by omega)).1) ?_
            refine z_callVX C (As := [zV (bI true), zN 7, zN (mt i)]) (rest := []) (c_X12_must l Z hM true (zI 7) (zI ((mt i : Nat) : Int))) hM.1 rfl ⟨⟨zw_26_16, zw_1_5, zw_26_13⟩, zd_X12_must⟩ zw_26_14 zw_26_15 ⟨Nat.le_of_ble_eq_true rfl, Nat.le_of_ble_eq_true rfl⟩ ⟨rfl, rfl⟩ rfl hl.1 rfl (Nat.le_of_ble_eq_true rfl) dX12_flags_67 ⟨Nat.zero_le _, Nat.zero_le _⟩ hS (fun _ h => h) (fun H9 locs9 q9 ce9 hp9 hS9 _ _ g1 g2 g3 => ?_) (fun v H locs hp hS _ _ => ?_)
            · exact absurd hp9.1 (by decide)
            obtain ⟨-, rfl, hM⟩ := hp
            refine lv_iinc (v := zI ((i + 1 : Nat) : Int)) (lv' := [(1, zN (i + 1)), (0, .ref o)]) C.1 C.2.1 dX12_flags_70 hl (k := 0) rfl (zI_add _ _) (by decide) rfl (fun ls hl => ?_)
            refine lv_goto (tgt := 30) C.1 C.2.1 dX12_flags_73 (by decide) ?_
            exact ih (i + 1) _ ls _ hS hM (by omega) (by rw [← hx, hu, fst1_s (by unfold g7; rw [if_pos (by omega)])]; rw [show nf + nm - (i + 1) = nf + nm - i - 1 by omega]) hl
    exact loop (nf + nm + 1) 0 _ ls _ hS hM (by omega) (by unfold x7; rw [if_pos (by omega)]; rfl) hl

set_option maxHeartbeats 4000000 in
set_option maxRecDepth 20000 in
theorem c_X12_classes (l : Launch) (Z : zT) {H : Heap} {o : Nat} {ad : Nat → Nat} {σ : mS} (hM : isM Z H o ad σ) {F : Nat → Nat} {n : Nat} (hB : mSrc σ F n) {cl nf nm fa last : Nat} {tb mt : Nat → Nat} (hL : mLay σ F n tb cl nf nm mt fa last) : zX l Z yX12_classes cX12_classes 1 none (rmk 3) [.ref o] H (mA o ad) 0 0 (fun v H' => v = none ∧ x8 F tb (U2 F 8) cl = none ∧ isM Z H' o ad σ) (fun H' => ∃ w9 : Nat, x8 F tb (U2 F 8) cl = some w9 ∧ mBrk Z o ad [4, 5] [] σ 8 w9 H') := by
  have hn := hB.2.2.2
  have hpc := hL.2.1
  have hcl := hL.2.2.2.2.2.1
  have hnf := hL.2.2.2.2.2.2.2.2.1
  have hnm := hL.2.2.2.2.2.2.2.2.2.1
  have hMt := hL.2.2.2.2.2.2.2.2.2.2.1
  have hna := hL.2.2.2.2.2.2.2.2.2.2.2.2.1
  have hfa := hL.2.2.2.2.2.2.2.2.2.2.2.2.2.1
  refine zX.introV (own := RX12) ⟨by decide, rfl⟩ (Nat.le_of_ble_eq_true rfl) ?_
  intro p e s m args below meth c Q ls hH C hl hth hret
  have hS : va_S (mA o ad) s.heap H [] := by rw [hH]; exact va_S.rf
  have hl : lv_has ls 1 [(0, .ref o)] := hl
  refine lv_aload_n C.1 C.2.1 dX12_classes_0 rfl (lv_at hl 0 rfl) ?_
  refine lv_aload_n C.1 C.2.1 dX12_classes_1 rfl (lv_at hl 0 rfl) ?_
  refine lv_aload_n C.1 C.2.1 dX12_classes_2 rfl (lv_at hl 0 rfl) ?_
  refine lv_aload_n C.1 C.2.1 dX12_classes_3 rfl (lv_at hl 0 rfl) ?_
  refine m_get C hM 16 (v := .int (σ.1 16)) (by decide) zw_26_10 rfl rfl dX12_classes_4 ?_
  refine z_re (y := zI ((cl : Nat) : Int)) hL.2.2.2.2.1 ?_
  refine lv_iconst (v := zI 2) C.1 C.2.1 dX12_classes_7 (by decide) ?_
  refine y_iaddN C (a := cl) (b := 2) dX12_classes_8 ?_
  refine z_readV C (As := [zN (cl + 2)]) (rest := [.ref o, .ref o]) (c_X12_two l Z hM hB (cl + 2) rfl (by omega)) hM.1 rfl ⟨⟨zw_27_11, zw_1_5, zw_27_8⟩, zd_X12_two⟩ zw_27_9 zw_27_10 ⟨Nat.le_of_ble_eq_true rfl, Nat.le_of_ble_eq_true rfl⟩ ⟨rfl, rfl⟩ rfl hl.1 rfl (Nat.le_of_ble_eq_true rfl) dX12_classes_9 ⟨Nat.zero_le _, Nat.zero_le _⟩ hS (fun locs hS => ?_)
  have := U2_lt hB.1 (cl + 2)
  refine lv_bipush (v := zI 7) C.1 C.2.1 dX12_classes_12 (by decide) ?_
  refine z_readV C (As := [zN (U2 F (cl + 2)), zN 7]) (rest := [.ref o]) (c_X12_isEntry l Z hM hB hL (U2 F (cl + 2)) 7 rfl (by omega) (by omega)) hM.1 rfl ⟨⟨zw_28_18, zw_1_5, zw_28_15⟩, zd_X12_isEntry⟩ zw_28_16 zw_28_17 ⟨Nat.le_of_ble_eq_true rfl, Nat.le_of_ble_eq_true rfl⟩ ⟨rfl, rfl⟩ rfl hl.1 rfl (Nat.le_of_ble_eq_true rfl) dX12_classes_14 ⟨Nat.zero_le _, Nat.zero_le _⟩ hS (fun locs hS => ?_)
  refine lv_bipush (v := zI 8) C.1 C.2.1 dX12_classes_17 (by decide) ?_
  refine lv_aload_n C.1 C.2.1 dX12_classes_19 rfl (lv_at hl 0 rfl) ?_
  refine m_get C hM 16 (v := .int (σ.1 16)) (by decide) zw_26_10 rfl rfl dX12_classes_20 ?_
  refine z_re (y := zI ((cl : Nat) : Int)) hL.2.2.2.2.1 ?_
  refine lv_iconst (v := zI 2) C.1 C.2.1 dX12_classes_23 (by decide) ?_
  refine y_iaddN C (a := cl) (b := 2) dX12_classes_24 ?_
  refine z_callVX C (As := [zV (bI (isE F tb (U2 F 8) (U2 F (cl + 2)) 7)), zN 8, zN (cl + 2)]) (rest := []) (c_X12_must l Z hM (isE F tb (U2 F 8) (U2 F (cl + 2)) 7) (zI 8) (zI ((cl + 2 : Nat) : Int))) hM.1 rfl ⟨⟨zw_26_16, zw_1_5, zw_26_13⟩, zd_X12_must⟩ zw_26_14 zw_26_15 ⟨Nat.le_of_ble_eq_true rfl, Nat.le_of_ble_eq_true rfl⟩ ⟨rfl, rfl⟩ rfl hl.1 rfl (Nat.le_of_ble_eq_true rfl) dX12_classes_25 ⟨Nat.zero_le _, Nat.zero_le _⟩ hS (fun _ h => h) (fun H9 locs9 q9 ce9 hp9 hS9 _ _ g1 g2 g3 => ?_) (fun v H locs hp hS _ _ => ?_)
  · exact hth _ _ _ _ _ _ _ hS9 (⟨cl + 2, (by unfold x8; rw [if_pos hp9.1]), ⟨_, hp9.2, rfl, rfl, (chg_sx (by decide) (chg_sx (by decide) chg.rf))⟩⟩) g1 g2 g3
  obtain ⟨hb25, rfl, hM⟩ := hp
  refine lv_aload_n C.1 C.2.1 dX12_classes_28 rfl (lv_at hl 0 rfl) ?_
  refine lv_aload_n C.1 C.2.1 dX12_classes_29 rfl (lv_at hl 0 rfl) ?_
  refine lv_aload_n C.1 C.2.1 dX12_classes_30 rfl (lv_at hl 0 rfl) ?_
  refine lv_aload_n C.1 C.2.1 dX12_classes_31 rfl (lv_at hl 0 rfl) ?_
  refine m_get C hM 16 (v := .int (σ.1 16)) (by decide) zw_26_10 rfl rfl dX12_classes_32 ?_
  refine z_re (y := zI ((cl : Nat) : Int)) hL.2.2.2.2.1 ?_
  refine lv_iconst (v := zI 4) C.1 C.2.1 dX12_classes_35 (by decide) ?_
  refine y_iaddN C (a := cl) (b := 4) dX12_classes_36 ?_
  refine z_readV C (As := [zN (cl + 4)]) (rest := [.ref o, .ref o]) (c_X12_two l Z hM hB (cl + 4) rfl (by omega)) hM.1 rfl ⟨⟨zw_27_11, zw_1_5, zw_27_8⟩, zd_X12_two⟩ zw_27_9 zw_27_10 ⟨Nat.le_of_ble_eq_true rfl, Nat.le_of_ble_eq_true rfl⟩ ⟨rfl, rfl⟩ rfl hl.1 rfl (Nat.le_of_ble_eq_true rfl) dX12_classes_37 ⟨Nat.zero_le _, Nat.zero_le _⟩ hS (fun locs hS => ?_)
  have := U2_lt hB.1 (cl + 4)
  refine lv_bipush (v := zI 7) C.1 C.2.1 dX12_classes_40 (by decide) ?_
  refine z_readV C (As := [zN (U2 F (cl + 4)), zN 7]) (rest := [.ref o]) (c_X12_isEntry l Z hM hB hL (U2 F (cl + 4)) 7 rfl (by omega) (by omega)) hM.1 rfl ⟨⟨zw_28_18, zw_1_5, zw_28_15⟩, zd_X12_isEntry⟩ zw_28_16 zw_28_17 ⟨Nat.le_of_ble_eq_true rfl, Nat.le_of_ble_eq_true rfl⟩ ⟨rfl, rfl⟩ rfl hl.1 rfl (Nat.le_of_ble_eq_true rfl) dX12_classes_42 ⟨Nat.zero_le _, Nat.zero_le _⟩ hS (fun locs hS => ?_)
  refine lv_bipush (v := zI 8) C.1 C.2.1 dX12_classes_45 (by decide) ?_
  refine lv_aload_n C.1 C.2.1 dX12_classes_47 rfl (lv_at hl 0 rfl) ?_
  refine m_get C hM 16 (v := .int (σ.1 16)) (by decide) zw_26_10 rfl rfl dX12_classes_48 ?_
  refine z_re (y := zI ((cl : Nat) : Int)) hL.2.2.2.2.1 ?_
  refine lv_iconst (v := zI 4) C.1 C.2.1 dX12_classes_51 (by decide) ?_
  refine y_iaddN C (a := cl) (b := 4) dX12_classes_52 ?_
  refine z_callVX C (As := [zV (bI (isE F tb (U2 F 8) (U2 F (cl + 4)) 7)), zN 8, zN (cl + 4)]) (rest := []) (c_X12_must l Z hM (isE F tb (U2 F 8) (U2 F (cl + 4)) 7) (zI 8) (zI ((cl + 4 : Nat) : Int))) hM.1 rfl ⟨⟨zw_26_16, zw_1_5, zw_26_13⟩, zd_X12_must⟩ zw_26_14 zw_26_15 ⟨Nat.le_of_ble_eq_true rfl, Nat.le_of_ble_eq_true rfl⟩ ⟨rfl, rfl⟩ rfl hl.1 rfl (Nat.le_of_ble_eq_true rfl) dX12_classes_53 ⟨Nat.zero_le _, Nat.zero_le _⟩ hS (fun _ h => h) (fun H9 locs9 q9 ce9 hp9 hS9 _ _ g1 g2 g3 => ?_) (fun v H locs hp hS _ _ => ?_)
  · exact hth _ _ _ _ _ _ _ hS9 (⟨cl + 4, (by unfold x8; rw [if_neg (by rw [hb25]; decide), if_pos hp9.1]), ⟨_, hp9.2, rfl, rfl, (chg_sx (by decide) (chg_sx (by decide) chg.rf))⟩⟩) g1 g2 g3
  obtain ⟨hb53, rfl, hM⟩ := hp
  refine lv_aload_n C.1 C.2.1 dX12_classes_56 rfl (lv_at hl 0 rfl) ?_
  refine lv_aload_n C.1 C.2.1 dX12_classes_57 rfl (lv_at hl 0 rfl) ?_
  refine lv_aload_n C.1 C.2.1 dX12_classes_58 rfl (lv_at hl 0 rfl) ?_
  refine m_get C hM 16 (v := .int (σ.1 16)) (by decide) zw_26_10 rfl rfl dX12_classes_59 ?_
  refine z_re (y := zI ((cl : Nat) : Int)) hL.2.2.2.2.1 ?_
  refine lv_bipush (v := zI 6) C.1 C.2.1 dX12_classes_62 (by decide) ?_
  refine y_iaddN C (a := cl) (b := 6) dX12_classes_64 ?_
  refine z_readV C (As := [zN (cl + 6)]) (rest := [.ref o]) (c_X12_two l Z hM hB (cl + 6) rfl (by omega)) hM.1 rfl ⟨⟨zw_27_11, zw_1_5, zw_27_8⟩, zd_X12_two⟩ zw_27_9 zw_27_10 ⟨Nat.le_of_ble_eq_true rfl, Nat.le_of_ble_eq_true rfl⟩ ⟨rfl, rfl⟩ rfl hl.1 rfl (Nat.le_of_ble_eq_true rfl) dX12_classes_65 ⟨Nat.zero_le _, Nat.zero_le _⟩ hS (fun locs hS => ?_)
  have := U2_lt hB.1 (cl + 6)
  refine y_if_ne (tgt := 75) C (a := ((U2 F (cl + 6) : Nat) : Int)) dX12_classes_68 (by decide) (by omega) (fun h68 => ?_) (fun h68 => ?_)
  · refine lv_iconst (v := zI 0) C.1 C.2.1 dX12_classes_75 (by decide) ?_
    refine lv_bipush (v := zI 8) C.1 C.2.1 dX12_classes_76 (by decide) ?_
    refine lv_aload_n C.1 C.2.1 dX12_classes_78 rfl (lv_at hl 0 rfl) ?_
    refine m_get C hM 16 (v := .int (σ.1 16)) (by decide) zw_26_10 rfl rfl dX12_classes_79 ?_
    refine z_re (y := zI ((cl : Nat) : Int)) hL.2.2.2.2.1 ?_
    refine lv_bipush (v := zI 6) C.1 C.2.1 dX12_classes_82 (by decide) ?_
    refine y_iaddN C (a := cl) (b := 6) dX12_classes_84 ?_
    refine z_callVX C (As := [zV (bI false), zN 8, zN (cl + 6)]) (rest := []) (c_X12_must l Z hM false (zI 8) (zI ((cl + 6 : Nat) : Int))) hM.1 rfl ⟨⟨zw_26_16, zw_1_5, zw_26_13⟩, zd_X12_must⟩ zw_26_14 zw_26_15 ⟨Nat.le_of_ble_eq_true rfl, Nat.le_of_ble_eq_true rfl⟩ ⟨rfl, rfl⟩ rfl hl.1 rfl (Nat.le_of_ble_eq_true rfl) dX12_classes_85 ⟨Nat.zero_le _, Nat.zero_le _⟩ hS (fun _ h => h) (fun H9 locs9 q9 ce9 hp9 hS9 _ _ g1 g2 g3 => ?_) (fun v H locs hp hS _ _ => ?_)
    · exact hth _ _ _ _ _ _ _ hS9 (⟨cl + 6, (by unfold x8; rw [if_neg (by rw [hb25]; decide), if_neg (by rw [hb53]; decide), if_neg (by omega)]), ⟨_, hp9.2, rfl, rfl, (chg_sx (by decide) (chg_sx (by decide) chg.rf))⟩⟩) g1 g2 g3
    exact absurd hp.1 (by decide)
  · refine lv_iconst (v := zI 1) C.1 C.2.1 dX12_classes_71 (by decide) ?_
    refine lv_goto (tgt := 76) C.1 C.2.1 dX12_classes_72 (by decide) ?_
    refine lv_bipush (v := zI 8) C.1 C.2.1 dX12_classes_76 (by decide) ?_
    refine lv_aload_n C.1 C.2.1 dX12_classes_78 rfl (lv_at hl 0 rfl) ?_
    refine m_get C hM 16 (v := .int (σ.1 16)) (by decide) zw_26_10 rfl rfl dX12_classes_79 ?_
    refine z_re (y := zI ((cl : Nat) : Int)) hL.2.2.2.2.1 ?_
    refine lv_bipush (v := zI 6) C.1 C.2.1 dX12_classes_82 (by decide) ?_
    refine y_iaddN C (a := cl) (b := 6) dX12_classes_84 ?_
    refine z_callVX C (As := [zV (bI true), zN 8, zN (cl + 6)]) (rest := []) (c_X12_must l Z hM true (zI 8) (zI ((cl + 6 : Nat) : Int))) hM.1 rfl ⟨⟨zw_26_16, zw_1_5, zw_26_13⟩, zd_X12_must⟩ zw_26_14 zw_26_15 ⟨Nat.le_of_ble_eq_true rfl, Nat.le_of_ble_eq_true rfl⟩ ⟨rfl, rfl⟩ rfl hl.1 rfl (Nat.le_of_ble_eq_true rfl) dX12_classes_85 ⟨Nat.zero_le _, Nat.zero_le _⟩ hS (fun _ h => h) (fun H9 locs9 q9 ce9 hp9 hS9 _ _ g1 g2 g3 => ?_) (fun v H locs hp hS _ _ => ?_)
    · exact absurd hp9.1 (by decide)
    obtain ⟨-, rfl, hM⟩ := hp
    exact hret _ _ _ _ hS ⟨rfl, (by unfold x8; rw [if_neg (by rw [hb25]; decide), if_neg (by rw [hb53]; decide), if_pos (by omega)]), hM⟩ dX12_classes_88
