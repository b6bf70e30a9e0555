/-! the model: types, twice, codeOf, codes -/
theorem ppL_2 (F : Nat → Nat) (fp ln : Nat) : ∀ (c i q : Nat), q ≤ 2 * i → (ppL F fp ln c i q).2 ≤ 2 * (ppL F fp ln c i q).1 := by
  intro c
  induction c with
  | zero => intro i q h; exact h
  | succ c ih =>
    intro i q h
    unfold ppL
    split
    · rename_i h2
      exact ih _ _ (by split <;> omega)
    · exact h
theorem ppI_le (F : Nat → Nat) (fp ln : Nat) : (ppI F fp ln).1 ≤ ln + 1 := by
  rcases Nat.eq_zero_or_pos ln with h | h
  · have h0 : ¬ tyAt F fp ln 1 > 0 := fun z => by have := tyAt_in z; omega
    unfold ppI
    rw [h] at h0 ⊢
    show (ppL F fp 0 1 1 0).1 ≤ 1
    unfold ppL
    rw [if_neg h0]
    exact Nat.le_refl _
  · have := (ppL_in F fp ln (ln + 1) 1 0 h).1
    unfold ppI
    omega
theorem ppN_rg {F tb : Nat → Nat} {k : Nat} (h : nL F tb k ≤ 100) : -1 ≤ ppN F tb k ∧ ppN F tb k ≤ 300 := by
  have h1 := ppL_2 F (nP tb k) (nL F tb k) (nL F tb k + 1) 1 0 (by omega)
  have h2 := ppI_le F (nP tb k) (nL F tb k)
  unfold ppN pp
  split
  · unfold ppI at *; omega
  · omega

set_option maxHeartbeats 4000000 in
set_option maxRecDepth 20000 in
theorem c_X12_types (l : Launch) (Z : zT) {H : Heap} {o : Nat} {ad : Nat → Nat} {σ : mS} (hM : isM Z H o ad σ) {F : Nat → Nat} {n : Nat} (hB : mSrc σ F n) {cl nf nm fa last : Nat} {tb mt : Nat → Nat} (hL : mLay σ F n tb cl nf nm mt fa last) (h6 : x6 F tb (U2 F 8) = none) (h9 : x9 F tb (U2 F 8) mt (nf + nm) fa = none) : zX l Z yX12_types cX12_types 4 none (rmk 4) [.ref o] H (mA o ad) 0 0 (fun v H' => v = none ∧ x10 F tb (U2 F 8) mt nf (nf + nm) = none ∧ isM Z H' o ad σ) (fun H' => ∃ w9 : Nat, x10 F tb (U2 F 8) mt nf (nf + nm) = some w9 ∧ mBrk Z o ad [4, 5] [] σ 10 w9 H') := by
  have hn := hB.2.2.2
  have hpc := hL.2.1
  have hcl := hL.2.2.2.2.2.1
  have hnf := hL.2.2.2.2.2.2.2.2.1
  have hnm := hL.2.2.2.2.2.2.2.2.2.1
  have hMt := hL.2.2.2.2.2.2.2.2.2.2.1
  have hna := hL.2.2.2.2.2.2.2.2.2.2.2.2.1
  have hfa := hL.2.2.2.2.2.2.2.2.2.2.2.2.2.1
  refine zX.introV (own := RX12) ⟨by decide, rfl⟩ (Nat.le_of_ble_eq_true rfl) ?_
  intro p e s m args below meth c Q ls hH C hl hth hret
  have hS : va_S (mA o ad) s.heap H [] := by rw [hH]; exact va_S.rf
  have hl : lv_has ls 4 [(0, .ref o)] := hl
  refine lv_iconst (v := zI 1) C.1 C.2.1 dX12_types_0 (by decide) ?_
  refine lv_istore_n (lv' := [(1, zN 1), (0, .ref o)]) C.1 C.2.1 dX12_types_1 rfl hl (by decide) rfl (fun ls hl => ?_)
  have loopA : ∀ (fu : Nat) (k : Nat) (H : Heap) (ls : Array Slot) (locs : List Loc), va_S (mA o ad) s.heap H locs → isM Z H o ad σ → (k + fu = U2 F 8 + 1 ∧ k ≤ U2 F 8 ∧ 1 ≤ k) → ((fst1 (g10 F tb) (U2 F 8 - k) k).or (fst1 (g10m F tb mt nf) (nf + nm) 0) = x10 F tb (U2 F 8) mt nf (nf + nm)) → lv_has ls 4 [(1, zN k), (0, .ref o)] → W p l e (rmk 4) s m args below meth c H locs 0 0 Q (F0 m 2 ls []) := by
    intro fu
    induction fu with
    | zero =>
      intro k H ls locs hS hM hi hx hl
      omega
    | succ fu ih_loopA =>
      intro k H ls locs hS hM hi hx hl
      refine lv_iload_n C.1 C.2.1 dX12_types_2 rfl (lv_at hl 0 rfl) ?_
      refine lv_aload_n C.1 C.2.1 dX12_types_3 rfl (lv_at hl 1 rfl) ?_
      refine m_get C hM 10 (v := .int (σ.1 10)) (by decide) zw_26_9 rfl rfl dX12_types_4 ?_
      refine z_re (y := zI ((U2 F 8 : Nat) : Int)) hL.1 ?_
      refine y_icmp_ge (tgt := 100) C (a := ((k : Nat) : Int)) (b := ((U2 F 8 : Nat) : Int)) dX12_types_7 (by decide) (by omega) (fun h7 => ?_) (fun h7 => ?_)
      · refine lv_iconst (v := zI 0) C.1 C.2.1 dX12_types_100 (by decide) ?_
        refine lv_istore_n (lv' := [(1, zN 0), (0, .ref o)]) C.1 C.2.1 dX12_types_101 rfl hl (by decide) rfl (fun ls hl => ?_)
        have loopB : ∀ (fv : Nat) (i : Nat) (H : Heap) (ls : Array Slot) (locs : List Loc), va_S (mA o ad) s.heap H locs → isM Z H o ad σ → (i + fv = nf + nm + 1 ∧ i ≤ nf + nm) → (fst1 (g10m F tb mt nf) (nf + nm - i) i = x10 F tb (U2 F 8) mt nf (nf + nm)) → lv_has ls 4 [(1, zN i), (0, .ref o)] → W p l e (rmk 4) s m args below meth c H locs 0 0 Q (F0 m 102 ls []) := by
          intro fv
          induction fv with
          | zero =>
            intro i H ls locs hS hM hi hy hl
            omega
          | succ fv ih_loopB =>
            intro i H ls locs hS hM hi hy hl
            refine lv_iload_n C.1 C.2.1 dX12_types_102 rfl (lv_at hl 0 rfl) ?_
            refine lv_aload_n C.1 C.2.1 dX12_types_103 rfl (lv_at hl 1 rfl) ?_
            refine m_get C hM 17 (v := .int (σ.1 17)) (by decide) zw_25_23 rfl rfl dX12_types_104 ?_
            refine z_re (y := zI ((nf + nm : Nat) : Int)) hL.2.2.2.2.2.2.1 ?_
            refine y_icmp_ge (tgt := 177) C (a := ((i : Nat) : Int)) (b := ((nf + nm : Nat) : Int)) dX12_types_107 (by decide) (by omega) (fun h107 => ?_) (fun h107 => ?_)
            · exact hret _ _ _ _ hS ⟨rfl, (by rw [← hy, show nf + nm - i = 0 by omega]; rfl), hM⟩ dX12_types_177
            · have hv : nf + nm - i = (nf + nm - i - 1) + 1 := by omega
              have hmi := (hMt i (by omega)).2.1
              refine lv_aload_n C.1 C.2.1 dX12_types_110 rfl (lv_at hl 1 rfl) ?_
              refine m_get C hM 20 (v := .ref (ad 20)) (by decide) zw_5_4 rfl rfl dX12_types_111 ?_
              refine lv_iload_n C.1 C.2.1 dX12_types_114 rfl (lv_at hl 0 rfl) ?_
              refine m_ald C hM 20 (by decide) i (t := ((i : Nat) : Int)) rfl (by show _ < 48; omega) dX12_types_115 ?_
              refine z_re (y := zI ((mt i : Nat) : Int)) ((hMt i (by omega)).1) ?_
              refine lv_iconst (v := zI 4) C.1 C.2.1 dX12_types_116 (by decide) ?_
              refine y_iaddN C (a := mt i) (b := 4) dX12_types_117 ?_
              refine lv_istore_n (lv' := [(2, zN ((mt i) + 4)), (1, zN i), (0, .ref o)]) C.1 C.2.1 dX12_types_118 rfl hl (by decide) rfl (fun ls hl => ?_)
              refine lv_aload_n C.1 C.2.1 dX12_types_119 rfl (lv_at hl 2 rfl) ?_
              refine lv_aload_n C.1 C.2.1 dX12_types_120 rfl (lv_at hl 2 rfl) ?_
              refine lv_iload_n C.1 C.2.1 dX12_types_121 rfl (lv_at hl 0 rfl) ?_
              refine z_readV C (As := [zN ((mt i) + 4)]) (rest := [.ref o]) (c_X12_two l Z hM hB ((mt i) + 4) rfl (by omega)) hM.1 rfl ⟨⟨zw_27_11, zw_1_5, zw_27_8⟩, zd_X12_two⟩ zw_27_9 zw_27_10 ⟨Nat.le_of_ble_eq_true rfl, Nat.le_of_ble_eq_true rfl⟩ ⟨rfl, rfl⟩ rfl hl.1 rfl (Nat.le_of_ble_eq_true rfl) dX12_types_122 ⟨Nat.zero_le _, Nat.zero_le _⟩ hS (fun locs hS => ?_)
              have := U2_lt hB.1 ((mt i) + 4)
              refine z_readV C (As := [zN (U2 F ((mt i) + 4))]) (rest := []) (c_X12_parameterPlaces l Z hM hB ((hL.nm (x9_m h9 (i := i) (by omega)).2.1))) hM.1 rfl ⟨⟨zw_30_6, zw_1_5, zw_30_3⟩, zd_X12_parameterPlaces⟩ zw_30_4 zw_30_5 ⟨Nat.le_of_ble_eq_true rfl, Nat.le_of_ble_eq_true rfl⟩ ⟨rfl, rfl⟩ rfl hl.1 rfl (Nat.le_of_ble_eq_true rfl) dX12_types_125 ⟨Nat.zero_le _, Nat.zero_le _⟩ hS (fun locs hS => ?_)
              have hpp := ppN_rg (F := F) (tb := tb) (k := U2 F (mt i + 4)) ((hL.nm (x9_m h9 (i := i) (by omega)).2.1)).2.2.2.2.1
              refine lv_istore_n (lv' := [(3, zV (ppN F tb (U2 F (mt i + 4)))), (2, zN ((mt i) + 4)), (1, zN i), (0, .ref o)]) C.1 C.2.1 dX12_types_128 rfl hl (by decide) rfl (fun ls hl => ?_)
              refine lv_aload_n C.1 C.2.1 dX12_types_129 rfl (lv_at hl 3 rfl) ?_
              refine lv_iload_n C.1 C.2.1 dX12_types_130 rfl (lv_at hl 2 rfl) ?_
              refine lv_aload_n C.1 C.2.1 dX12_types_131 rfl (lv_at hl 3 rfl) ?_
              refine m_get C hM 18 (v := .int (σ.1 18)) (by decide) zw_26_0 rfl rfl dX12_types_132 ?_
              refine z_re (y := zI ((nf : Nat) : Int)) hL.2.2.2.2.2.2.2.1 ?_
              refine y_icmp_ge (tgt := 150) C (a := ((i : Nat) : Int)) (b := ((nf : Nat) : Int)) dX12_types_135 (by decide) (by omega) (fun h135 => ?_) (fun h135 => ?_)
              · refine lv_iload_n C.1 C.2.1 dX12_types_150 rfl (lv_at hl 0 rfl) ?_
                refine y_if_lt (tgt := 164) C (a := ppN F tb (U2 F (mt i + 4))) dX12_types_151 (by decide) (by omega) (fun h151 => ?_) (fun h151 => ?_)
                · refine lv_iconst (v := zI 0) C.1 C.2.1 dX12_types_164 (by decide) ?_
                  refine lv_bipush (v := zI 10) C.1 C.2.1 dX12_types_165 (by decide) ?_
                  refine lv_iload_n C.1 C.2.1 dX12_types_167 rfl (lv_at hl 1 rfl) ?_
                  refine z_callVX C (As := [zV (bI false), zN 10, zN ((mt i) + 4)]) (rest := []) (c_X12_must l Z hM false (zI 10) (zI (((mt i) + 4 : Nat) : Int))) hM.1 rfl ⟨⟨zw_26_16, zw_1_5, zw_26_13⟩, zd_X12_must⟩ zw_26_14 zw_26_15 ⟨Nat.le_of_ble_eq_true rfl, Nat.le_of_ble_eq_true rfl⟩ ⟨rfl, rfl⟩ rfl hl.1 rfl (Nat.le_of_ble_eq_true rfl) dX12_types_168 ⟨Nat.zero_le _, Nat.zero_le _⟩ hS (fun _ h => h) (fun H9 locs9 q9 ce9 hp9 hS9 _ _ g1 g2 g3 => ?_) (fun v H locs hp hS _ _ => ?_)
                  · exact hth _ _ _ _ _ _ _ hS9 (⟨mt i + 4, (by rw [← hy, hv]; exact fst1_e (by unfold g10m; rw [if_neg (by omega), if_neg (by omega)])), ⟨_, hp9.2, rfl, rfl, (chg_sx (by decide) (chg_sx (by decide) chg.rf))⟩⟩) g1 g2 g3
                  exact absurd hp.1 (by decide)
                · refine lv_iload_n C.1 C.2.1 dX12_types_154 rfl (lv_at hl 0 rfl) ?_
                  refine lv_bipush (v := zI 8) C.1 C.2.1 dX12_types_155 (by decide) ?_
                  refine y_icmp_gt (tgt := 164) C (a := ppN F tb (U2 F (mt i + 4))) (b := 8) dX12_types_157 (by decide) (by omega) (fun h157 => ?_) (fun h157 => ?_)
                  · refine lv_iconst (v := zI 0) C.1 C.2.1 dX12_types_164 (by decide) ?_
                    refine lv_bipush (v := zI 10) C.1 C.2.1 dX12_types_165 (by decide) ?_
                    refine lv_iload_n C.1 C.2.1 dX12_types_167 rfl (lv_at hl 1 rfl) ?_
                    refine z_callVX C (As := [zV (bI false), zN 10, zN ((mt i) + 4)]) (rest := []) (c_X12_must l Z hM false (zI 10) (zI (((mt i) + 4 : Nat) : Int))) hM.1 rfl ⟨⟨zw_26_16, zw_1_5, zw_26_13⟩, zd_X12_must⟩ zw_26_14 zw_26_15 ⟨Nat.le_of_ble_eq_true rfl, Nat.le_of_ble_eq_true rfl⟩ ⟨rfl, rfl⟩ rfl hl.1 rfl (Nat.le_of_ble_eq_true rfl) dX12_types_168 ⟨Nat.zero_le _, Nat.zero_le _⟩ hS (fun _ h => h) (fun H9 locs9 q9 ce9 hp9 hS9 _ _ g1 g2 g3 => ?_) (fun v H locs hp hS _ _ => ?_)
                    · exact hth _ _ _ _ _ _ _ hS9 (⟨mt i + 4, (by rw [← hy, hv]; exact fst1_e (by unfold g10m; rw [if_neg (by omega), if_neg (by omega)])), ⟨_, hp9.2, rfl, rfl, (chg_sx (by decide) (chg_sx (by decide) chg.rf))⟩⟩) g1 g2 g3
                    exact absurd hp.1 (by decide)
                  · refine lv_iconst (v := zI 1) C.1 C.2.1 dX12_types_160 (by decide) ?_
                    refine lv_goto (tgt := 165) C.1 C.2.1 dX12_types_161 (by decide) ?_
                    refine lv_bipush (v := zI 10) C.1 C.2.1 dX12_types_165 (by decide) ?_
                    refine lv_iload_n C.1 C.2.1 dX12_types_167 rfl (lv_at hl 1 rfl) ?_
                    refine z_callVX C (As := [zV (bI true), zN 10, zN ((mt i) + 4)]) (rest := []) (c_X12_must l Z hM true (zI 10) (zI (((mt i) + 4 : Nat) : Int))) hM.1 rfl ⟨⟨zw_26_16, zw_1_5, zw_26_13⟩, zd_X12_must⟩ zw_26_14 zw_26_15 ⟨Nat.le_of_ble_eq_true rfl, Nat.le_of_ble_eq_true rfl⟩ ⟨rfl, rfl⟩ rfl hl.1 rfl (Nat.le_of_ble_eq_true rfl) dX12_types_168 ⟨Nat.zero_le _, Nat.zero_le _⟩ hS (fun _ h => h) (fun H9 locs9 q9 ce9 hp9 hS9 _ _ g1 g2 g3 => ?_) (fun v H locs hp hS _ _ => ?_)
                    · exact absurd hp9.1 (by decide)
                    obtain ⟨-, rfl, hM⟩ := hp
                    refine lv_iinc (v := zI ((i + 1 : Nat) : Int)) (lv' := [(1, zN (i + 1)), (3, zV (ppN F tb (U2 F (mt i + 4)))), (2, zN ((mt i) + 4)), (0, .ref o)]) C.1 C.2.1 dX12_types_171 hl (k := 2) rfl (zI_add _ _) (by decide) rfl (fun ls hl => ?_)
                    refine lv_goto (tgt := 102) C.1 C.2.1 dX12_types_174 (by decide) ?_
                    exact ih_loopB (i + 1) _ ls _ hS hM (by omega) (by rw [← hy, hv, fst1_s (by unfold g10m; rw [if_neg (by omega), if_pos (by omega)])]; rw [show nf + nm - (i + 1) = nf + nm - i - 1 by omega]) (lv_sub hl [0, 3] rfl)
              · refine lv_aload_n C.1 C.2.1 dX12_types_138 rfl (lv_at hl 3 rfl) ?_
                refine lv_aload_n C.1 C.2.1 dX12_types_139 rfl (lv_at hl 3 rfl) ?_
                refine lv_iload_n C.1 C.2.1 dX12_types_140 rfl (lv_at hl 1 rfl) ?_
                refine z_readV C (As := [zN ((mt i) + 4)]) (rest := [.ref o, .ref o]) (c_X12_two l Z hM hB ((mt i) + 4) rfl (by omega)) hM.1 rfl ⟨⟨zw_27_11, zw_1_5, zw_27_8⟩, zd_X12_two⟩ zw_27_9 zw_27_10 ⟨Nat.le_of_ble_eq_true rfl, Nat.le_of_ble_eq_true rfl⟩ ⟨rfl, rfl⟩ rfl hl.1 rfl (Nat.le_of_ble_eq_true rfl) dX12_types_141 ⟨Nat.zero_le _, Nat.zero_le _⟩ hS (fun locs hS => ?_)
                have := U2_lt hB.1 ((mt i) + 4)
                refine z_readV C (As := [zN (U2 F ((mt i) + 4))]) (rest := [.ref o]) (c_X12_isType l Z hM hB ((hL.nm (x9_m h9 (i := i) (by omega)).2.1))) hM.1 rfl ⟨⟨zw_29_18, zw_1_5, zw_29_15⟩, zd_X12_isType⟩ zw_29_16 zw_29_17 ⟨Nat.le_of_ble_eq_true rfl, Nat.le_of_ble_eq_true rfl⟩ ⟨rfl, rfl⟩ rfl hl.1 rfl (Nat.le_of_ble_eq_true rfl) dX12_types_144 ⟨Nat.zero_le _, Nat.zero_le _⟩ hS (fun locs hS => ?_)
                refine lv_goto (tgt := 165) C.1 C.2.1 dX12_types_147 (by decide) ?_
                refine lv_bipush (v := zI 10) C.1 C.2.1 dX12_types_165 (by decide) ?_
                refine lv_iload_n C.1 C.2.1 dX12_types_167 rfl (lv_at hl 1 rfl) ?_
                refine z_callVX C (As := [zV (bI (tyN F tb (U2 F (mt i + 4)))), zN 10, zN ((mt i) + 4)]) (rest := []) (c_X12_must l Z hM (tyN F tb (U2 F (mt i + 4))) (zI 10) (zI (((mt i) + 4 : Nat) : Int))) hM.1 rfl ⟨⟨zw_26_16, zw_1_5, zw_26_13⟩, zd_X12_must⟩ zw_26_14 zw_26_15 ⟨Nat.le_of_ble_eq_true rfl, Nat.le_of_ble_eq_true rfl⟩ ⟨rfl, rfl⟩ rfl hl.1 rfl (Nat.le_of_ble_eq_true rfl) dX12_types_168 ⟨Nat.zero_le _, Nat.zero_le _⟩ hS (fun _ h => h) (fun H9 locs9 q9 ce9 hp9 hS9 _ _ g1 g2 g3 => ?_) (fun v H locs hp hS _ _ => ?_)
                · exact hth _ _ _ _ _ _ _ hS9 (⟨mt i + 4, (by rw [← hy, hv]; exact fst1_e (by unfold g10m; rw [if_pos (by omega), if_neg (by rw [hp9.1]; decide)])), ⟨_, hp9.2, rfl, rfl, (chg_sx (by decide) (chg_sx (by decide) chg.rf))⟩⟩) g1 g2 g3
                obtain ⟨hb168, rfl, hM⟩ := hp
                refine lv_iinc (v := zI ((i + 1 : Nat) : Int)) (lv' := [(1, zN (i + 1)), (3, zV (ppN F tb (U2 F (mt i + 4)))), (2, zN ((mt i) + 4)), (0, .ref o)]) C.1 C.2.1 dX12_types_171 hl (k := 2) rfl (zI_add _ _) (by decide) rfl (fun ls hl => ?_)
                refine lv_goto (tgt := 102) C.1 C.2.1 dX12_types_174 (by decide) ?_
                exact ih_loopB (i + 1) _ ls _ hS hM (by omega) (by rw [← hy, hv, fst1_s (by unfold g10m; rw [if_pos (by omega), if_pos hb168])]; rw [show nf + nm - (i + 1) = nf + nm - i - 1 by omega]) (lv_sub hl [0, 3] rfl)
        exact loopB (nf + nm + 1) 0 _ ls _ hS hM (by omega) (by rw [← hx, show U2 F 8 - k = 0 by omega]; rfl) hl
      · have hu : U2 F 8 - k = (U2 F 8 - k - 1) + 1 := by omega
        have htg : tg F tb k < 256 := by unfold tg; split; decide; exact hB.1 _
        refine lv_aload_n C.1 C.2.1 dX12_types_10 rfl (lv_at hl 1 rfl) ?_
        refine m_get C hM 11 (v := .ref (ad 11)) (by decide) zw_4_22 rfl rfl dX12_types_11 ?_
        refine lv_iload_n C.1 C.2.1 dX12_types_14 rfl (lv_at hl 0 rfl) ?_
        refine m_ald C hM 11 (by decide) k (t := ((k : Nat) : Int)) rfl (by show _ < 502; omega) dX12_types_15 ?_
        refine z_re (y := zI ((tg F tb k : Nat) : Int)) (hL.tag (show k < 502 by omega)) ?_
        refine lv_bipush (v := zI 9) C.1 C.2.1 dX12_types_16 (by decide) ?_
        refine y_icmp_ne (tgt := 48) C (a := ((tg F tb k : Nat) : Int)) (b := 9) dX12_types_18 (by decide) (by omega) (fun h18 => ?_) (fun h18 => ?_)
        · refine lv_aload_n C.1 C.2.1 dX12_types_48 rfl (lv_at hl 1 rfl) ?_
          refine m_get C hM 11 (v := .ref (ad 11)) (by decide) zw_4_22 rfl rfl dX12_types_49 ?_
          refine lv_iload_n C.1 C.2.1 dX12_types_52 rfl (lv_at hl 0 rfl) ?_
          refine m_ald C hM 11 (by decide) k (t := ((k : Nat) : Int)) rfl (by show _ < 502; omega) dX12_types_53 ?_
          refine z_re (y := zI ((tg F tb k : Nat) : Int)) (hL.tag (show k < 502 by omega)) ?_
          refine lv_bipush (v := zI 10) C.1 C.2.1 dX12_types_54 (by decide) ?_
          refine y_icmp_ne (tgt := 94) C (a := ((tg F tb k : Nat) : Int)) (b := 10) dX12_types_56 (by decide) (by omega) (fun h56 => ?_) (fun h56 => ?_)
          · refine lv_iinc (v := zI ((k + 1 : Nat) : Int)) (lv' := [(1, zN (k + 1)), (0, .ref o)]) C.1 C.2.1 dX12_types_94 hl (k := 0) rfl (zI_add _ _) (by decide) rfl (fun ls hl => ?_)
            refine lv_goto (tgt := 2) C.1 C.2.1 dX12_types_97 (by decide) ?_
            exact ih_loopA (k + 1) _ ls _ hS hM (by omega) (by rw [← hx, hu, fst1_s (by unfold g10; rw [if_neg (by omega), if_neg (by omega)])]; rw [show U2 F 8 - (k + 1) = U2 F 8 - k - 1 by omega]) hl
          · obtain ⟨ht1, ht2, ht3⟩ := hL.ent (show k < 502 by omega) (show tg F tb k ≠ 0 by omega)
            have he := ht3.2.2.2.2.2.2.2.1 (by omega)
            obtain ⟨hp1, hp2, hp3⟩ := isE_t (x6_mem h6 (k := k) (by omega) (by omega) (by omega)).2
            obtain ⟨hq1, hq2, hq3⟩ := hL.ent (show e2 F tb k < 502 by omega) (by omega)
            have hf := hq3.2.2.2.2.2.2.2.1 (by omega)
            refine lv_aload_n C.1 C.2.1 dX12_types_59 rfl (lv_at hl 1 rfl) ?_
            refine lv_aload_n C.1 C.2.1 dX12_types_60 rfl (lv_at hl 1 rfl) ?_
            refine lv_aload_n C.1 C.2.1 dX12_types_61 rfl (lv_at hl 1 rfl) ?_
            refine m_get C hM 14 (v := .ref (ad 14)) (by decide) zw_5_1 rfl rfl dX12_types_62 ?_
            refine lv_aload_n C.1 C.2.1 dX12_types_65 rfl (lv_at hl 1 rfl) ?_
            refine m_get C hM 14 (v := .ref (ad 14)) (by decide) zw_5_1 rfl rfl dX12_types_66 ?_
            refine lv_iload_n C.1 C.2.1 dX12_types_69 rfl (lv_at hl 0 rfl) ?_
            refine m_ald C hM 14 (by decide) k (t := ((k : Nat) : Int)) rfl (by show _ < 502; omega) dX12_types_70 ?_
            refine z_re (y := zI ((e2 F tb k : Nat) : Int)) he.2.1 ?_
            refine m_ald C hM 14 (by decide) (e2 F tb k) (t := ((e2 F tb k : Nat) : Int)) rfl (by show _ < 502; omega) dX12_types_71 ?_
            refine z_re (y := zI ((e2 F tb (e2 F tb k) : Nat) : Int)) hf.2.1 ?_
            refine z_readV C (As := [zN (e2 F tb (e2 F tb k))]) (rest := [.ref o]) (c_X12_parameterPlaces l Z hM hB ((hL.nm (x6_pair h6 (x6_mem h6 (k := k) (by omega) (by omega) (by omega)).2).2))) hM.1 rfl ⟨⟨zw_30_6, zw_1_5, zw_30_3⟩, zd_X12_parameterPlaces⟩ zw_30_4 zw_30_5 ⟨Nat.le_of_ble_eq_true rfl, Nat.le_of_ble_eq_true rfl⟩ ⟨rfl, rfl⟩ rfl hl.1 rfl (Nat.le_of_ble_eq_true rfl) dX12_types_72 ⟨Nat.zero_le _, Nat.zero_le _⟩ hS (fun locs hS => ?_)
            have hpp := ppN_rg (F := F) (tb := tb) (k := e2 F tb (e2 F tb k)) ((hL.nm (x6_pair h6 (x6_mem h6 (k := k) (by omega) (by omega) (by omega)).2).2)).2.2.2.2.1
            refine y_if_lt (tgt := 82) C (a := ppN F tb (e2 F tb (e2 F tb k))) dX12_types_75 (by decide) (by omega) (fun h75 => ?_) (fun h75 => ?_)
            · refine lv_iconst (v := zI 0) C.1 C.2.1 dX12_types_82 (by decide) ?_
              refine lv_bipush (v := zI 10) C.1 C.2.1 dX12_types_83 (by decide) ?_
              refine lv_aload_n C.1 C.2.1 dX12_types_85 rfl (lv_at hl 1 rfl) ?_
              refine m_get C hM 12 (v := .ref (ad 12)) (by decide) zw_4_23 rfl rfl dX12_types_86 ?_
              refine lv_iload_n C.1 C.2.1 dX12_types_89 rfl (lv_at hl 0 rfl) ?_
              refine m_ald C hM 12 (by decide) k (t := ((k : Nat) : Int)) rfl (by show _ < 502; omega) dX12_types_90 ?_
              refine z_callVX C (As := [zV (bI false), zN 10, .int (σ.2.1 12 k)]) (rest := []) (c_X12_must l Z hM false (zI 10) (σ.2.1 12 k)) hM.1 rfl ⟨⟨zw_26_16, zw_1_5, zw_26_13⟩, zd_X12_must⟩ zw_26_14 zw_26_15 ⟨Nat.le_of_ble_eq_true rfl, Nat.le_of_ble_eq_true rfl⟩ ⟨rfl, rfl⟩ rfl hl.1 rfl (Nat.le_of_ble_eq_true rfl) dX12_types_91 ⟨Nat.zero_le _, Nat.zero_le _⟩ hS (fun _ h => h) (fun H9 locs9 q9 ce9 hp9 hS9 _ _ g1 g2 g3 => ?_) (fun v H locs hp hS _ _ => ?_)
              · exact hth _ _ _ _ _ _ _ hS9 (⟨tb k, (by rw [← hx, hu, fst1_e (by unfold g10; rw [if_neg (by omega), if_pos (by omega), if_neg (by omega)])]; rfl), ⟨_, hp9.2, rfl, ht3.2.2.1, (chg_sx (by decide) (chg_sx (by decide) chg.rf))⟩⟩) g1 g2 g3
              exact absurd hp.1 (by decide)
            · refine lv_iconst (v := zI 1) C.1 C.2.1 dX12_types_78 (by decide) ?_
              refine lv_goto (tgt := 83) C.1 C.2.1 dX12_types_79 (by decide) ?_
              refine lv_bipush (v := zI 10) C.1 C.2.1 dX12_types_83 (by decide) ?_
              refine lv_aload_n C.1 C.2.1 dX12_types_85 rfl (lv_at hl 1 rfl) ?_
              refine m_get C hM 12 (v := .ref (ad 12)) (by decide) zw_4_23 rfl rfl dX12_types_86 ?_
              refine lv_iload_n C.1 C.2.1 dX12_types_89 rfl (lv_at hl 0 rfl) ?_
              refine m_ald C hM 12 (by decide) k (t := ((k : Nat) : Int)) rfl (by show _ < 502; omega) dX12_types_90 ?_
              refine z_callVX C (As := [zV (bI true), zN 10, .int (σ.2.1 12 k)]) (rest := []) (c_X12_must l Z hM true (zI 10) (σ.2.1 12 k)) hM.1 rfl ⟨⟨zw_26_16, zw_1_5, zw_26_13⟩, zd_X12_must⟩ zw_26_14 zw_26_15 ⟨Nat.le_of_ble_eq_true rfl, Nat.le_of_ble_eq_true rfl⟩ ⟨rfl, rfl⟩ rfl hl.1 rfl (Nat.le_of_ble_eq_true rfl) dX12_types_91 ⟨Nat.zero_le _, Nat.zero_le _⟩ hS (fun _ h => h) (fun H9 locs9 q9 ce9 hp9 hS9 _ _ g1 g2 g3 => ?_) (fun v H locs hp hS _ _ => ?_)
              · exact absurd hp9.1 (by decide)
              obtain ⟨-, rfl, hM⟩ := hp
              refine lv_iinc (v := zI ((k + 1 : Nat) : Int)) (lv' := [(1, zN (k + 1)), (0, .ref o)]) C.1 C.2.1 dX12_types_94 hl (k := 0) rfl (zI_add _ _) (by decide) rfl (fun ls hl => ?_)
              refine lv_goto (tgt := 2) C.1 C.2.1 dX12_types_97 (by decide) ?_
              exact ih_loopA (k + 1) _ ls _ hS hM (by omega) (by rw [← hx, hu, fst1_s (by unfold g10; rw [if_neg (by omega), if_pos (by omega), if_pos (by omega)])]; rw [show U2 F 8 - (k + 1) = U2 F 8 - k - 1 by omega]) hl
        · obtain ⟨ht1, ht2, ht3⟩ := hL.ent (show k < 502 by omega) (show tg F tb k ≠ 0 by omega)
          have he := ht3.2.2.2.2.2.2.2.1 (by omega)
          obtain ⟨hp1, hp2, hp3⟩ := isE_t (x6_mem h6 (k := k) (by omega) (by omega) (by omega)).2
          obtain ⟨hq1, hq2, hq3⟩ := hL.ent (show e2 F tb k < 502 by omega) (by omega)
          have hf := hq3.2.2.2.2.2.2.2.1 (by omega)
          refine lv_aload_n C.1 C.2.1 dX12_types_21 rfl (lv_at hl 1 rfl) ?_
          refine lv_aload_n C.1 C.2.1 dX12_types_22 rfl (lv_at hl 1 rfl) ?_
          refine lv_aload_n C.1 C.2.1 dX12_types_23 rfl (lv_at hl 1 rfl) ?_
          refine m_get C hM 14 (v := .ref (ad 14)) (by decide) zw_5_1 rfl rfl dX12_types_24 ?_
          refine lv_aload_n C.1 C.2.1 dX12_types_27 rfl (lv_at hl 1 rfl) ?_
          refine m_get C hM 14 (v := .ref (ad 14)) (by decide) zw_5_1 rfl rfl dX12_types_28 ?_
          refine lv_iload_n C.1 C.2.1 dX12_types_31 rfl (lv_at hl 0 rfl) ?_
          refine m_ald C hM 14 (by decide) k (t := ((k : Nat) : Int)) rfl (by show _ < 502; omega) dX12_types_32 ?_
          refine z_re (y := zI ((e2 F tb k : Nat) : Int)) he.2.1 ?_
          refine m_ald C hM 14 (by decide) (e2 F tb k) (t := ((e2 F tb k : Nat) : Int)) rfl (by show _ < 502; omega) dX12_types_33 ?_
          refine z_re (y := zI ((e2 F tb (e2 F tb k) : Nat) : Int)) hf.2.1 ?_
          refine z_readV C (As := [zN (e2 F tb (e2 F tb k))]) (rest := [.ref o]) (c_X12_isType l Z hM hB ((hL.nm (x6_pair h6 (x6_mem h6 (k := k) (by omega) (by omega) (by omega)).2).2))) hM.1 rfl ⟨⟨zw_29_18, zw_1_5, zw_29_15⟩, zd_X12_isType⟩ zw_29_16 zw_29_17 ⟨Nat.le_of_ble_eq_true rfl, Nat.le_of_ble_eq_true rfl⟩ ⟨rfl, rfl⟩ rfl hl.1 rfl (Nat.le_of_ble_eq_true rfl) dX12_types_34 ⟨Nat.zero_le _, Nat.zero_le _⟩ hS (fun locs hS => ?_)
          refine lv_bipush (v := zI 10) C.1 C.2.1 dX12_types_37 (by decide) ?_
          refine lv_aload_n C.1 C.2.1 dX12_types_39 rfl (lv_at hl 1 rfl) ?_
          refine m_get C hM 12 (v := .ref (ad 12)) (by decide) zw_4_23 rfl rfl dX12_types_40 ?_
          refine lv_iload_n C.1 C.2.1 dX12_types_43 rfl (lv_at hl 0 rfl) ?_
          refine m_ald C hM 12 (by decide) k (t := ((k : Nat) : Int)) rfl (by show _ < 502; omega) dX12_types_44 ?_
          refine z_callVX C (As := [zV (bI (tyN F tb (e2 F tb (e2 F tb k)))), zN 10, .int (σ.2.1 12 k)]) (rest := []) (c_X12_must l Z hM (tyN F tb (e2 F tb (e2 F tb k))) (zI 10) (σ.2.1 12 k)) hM.1 rfl ⟨⟨zw_26_16, zw_1_5, zw_26_13⟩, zd_X12_must⟩ zw_26_14 zw_26_15 ⟨Nat.le_of_ble_eq_true rfl, Nat.le_of_ble_eq_true rfl⟩ ⟨rfl, rfl⟩ rfl hl.1 rfl (Nat.le_of_ble_eq_true rfl) dX12_types_45 ⟨Nat.zero_le _, Nat.zero_le _⟩ hS (fun _ h => h) (fun H9 locs9 q9 ce9 hp9 hS9 _ _ g1 g2 g3 => ?_) (fun v H locs hp hS _ _ => ?_)
          · exact hth _ _ _ _ _ _ _ hS9 (⟨tb k, (by rw [← hx, hu, fst1_e (by unfold g10; rw [if_pos (by omega), if_neg (by rw [hp9.1]; decide)])]; rfl), ⟨_, hp9.2, rfl, ht3.2.2.1, (chg_sx (by decide) (chg_sx (by decide) chg.rf))⟩⟩) g1 g2 g3
          obtain ⟨hb45, rfl, hM⟩ := hp
          refine lv_aload_n C.1 C.2.1 dX12_types_48 rfl (lv_at hl 1 rfl) ?_
          refine m_get C hM 11 (v := .ref (ad 11)) (by decide) zw_4_22 rfl rfl dX12_types_49 ?_
          refine lv_iload_n C.1 C.2.1 dX12_types_52 rfl (lv_at hl 0 rfl) ?_
          refine m_ald C hM 11 (by decide) k (t := ((k : Nat) : Int)) rfl (by show _ < 502; omega) dX12_types_53 ?_
          refine z_re (y := zI ((tg F tb k : Nat) : Int)) (hL.tag (show k < 502 by omega)) ?_
          refine lv_bipush (v := zI 10) C.1 C.2.1 dX12_types_54 (by decide) ?_
          refine y_icmp_ne (tgt := 94) C (a := ((tg F tb k : Nat) : Int)) (b := 10) dX12_types_56 (by decide) (by omega) (fun h56 => ?_) (fun h56 => ?_)
          · refine lv_iinc (v := zI ((k + 1 : Nat) : Int)) (lv' := [(1, zN (k + 1)), (0, .ref o)]) C.1 C.2.1 dX12_types_94 hl (k := 0) rfl (zI_add _ _) (by decide) rfl (fun ls hl => ?_)
            refine lv_goto (tgt := 2) C.1 C.2.1 dX12_types_97 (by decide) ?_
            exact ih_loopA (k + 1) _ ls _ hS hM (by omega) (by rw [← hx, hu, fst1_s (by unfold g10; rw [if_pos (by omega), if_pos hb45])]; rw [show U2 F 8 - (k + 1) = U2 F 8 - k - 1 by omega]) hl
          · exact absurd h56 (by omega)
  exact loopA (U2 F 8) 1 _ ls _ hS hM (by omega) rfl hl

set_option maxHeartbeats 4000000 in
set_option maxRecDepth 20000 in
theorem c_X12_twice (l : Launch) (Z : zT) {H : Heap} {o : Nat} {ad : Nat → Nat} {σ : mS} (hM : isM Z H o ad σ) {F : Nat → Nat} {n : Nat} (hB : mSrc σ F n) {cl nf nm fa last : Nat} {tb mt : Nat → Nat} (hL : mLay σ F n tb cl nf nm mt fa last) (h9 : x9 F tb (U2 F 8) mt (nf + nm) fa = none) : zX l Z yX12_twice cX12_twice 4 none (rmk 3) [.ref o] H (mA o ad) 0 0 (fun v H' => v = none ∧ x11 F tb mt nf (nf + nm) = none ∧ isM Z H' o ad σ) (fun H' => ∃ w9 : Nat, x11 F tb mt nf (nf + nm) = some w9 ∧ mBrk Z o ad [4, 5] [] σ 11 w9 H') := by
  have hn := hB.2.2.2
  have hpc := hL.2.1
  have hcl := hL.2.2.2.2.2.1
  have hnf := hL.2.2.2.2.2.2.2.2.1
  have hnm := hL.2.2.2.2.2.2.2.2.2.1
  have hMt := hL.2.2.2.2.2.2.2.2.2.2.1
  have hna := hL.2.2.2.2.2.2.2.2.2.2.2.2.1
  have hfa := hL.2.2.2.2.2.2.2.2.2.2.2.2.2.1
  refine zX.introV (own := RX12) ⟨by decide, rfl⟩ (Nat.le_of_ble_eq_true rfl) ?_
  intro p e s m args below meth c Q ls hH C hl hth hret
  have hS : va_S (mA o ad) s.heap H [] := by rw [hH]; exact va_S.rf
  have hl : lv_has ls 4 [(0, .ref o)] := hl
  refine lv_iconst (v := zI 0) C.1 C.2.1 dX12_twice_0 (by decide) ?_
  refine lv_istore_n (lv' := [(1, zN 0), (0, .ref o)]) C.1 C.2.1 dX12_twice_1 rfl hl (by decide) rfl (fun ls hl => ?_)
  have loopO : ∀ (fu : Nat) (i : Nat) (H : Heap) (ls : Array Slot) (locs : List Loc), va_S (mA o ad) s.heap H locs → isM Z H o ad σ → (i + fu = nf + nm + 1 ∧ i ≤ nf + nm) → (fst1 (g11i F tb mt nf) (nf + nm - i) i = x11 F tb mt nf (nf + nm)) → lv_has ls 4 [(1, zN i), (0, .ref o)] → W p l e (rmk 3) s m args below meth c H locs 0 0 Q (F0 m 2 ls []) := by
    intro fu
    induction fu with
    | zero =>
      intro i H ls locs hS hM hi hx hl
      omega
    | succ fu ih_loopO =>
      intro i H ls locs hS hM hi hx hl
      refine lv_iload_n C.1 C.2.1 dX12_twice_2 rfl (lv_at hl 0 rfl) ?_
      refine lv_aload_n C.1 C.2.1 dX12_twice_3 rfl (lv_at hl 1 rfl) ?_
      refine m_get C hM 17 (v := .int (σ.1 17)) (by decide) zw_25_23 rfl rfl dX12_twice_4 ?_
      refine z_re (y := zI ((nf + nm : Nat) : Int)) hL.2.2.2.2.2.2.1 ?_
      refine y_icmp_ge (tgt := 96) C (a := ((i : Nat) : Int)) (b := ((nf + nm : Nat) : Int)) dX12_twice_7 (by decide) (by omega) (fun h7 => ?_) (fun h7 => ?_)
      · exact hret _ _ _ _ hS ⟨rfl, (by rw [← hx, show nf + nm - i = 0 by omega]; rfl), hM⟩ dX12_twice_96
      · have hu : nf + nm - i = (nf + nm - i - 1) + 1 := by omega
        have hmi := (hMt i (by omega)).2.1
        refine lv_iload_n C.1 C.2.1 dX12_twice_10 rfl (lv_at hl 0 rfl) ?_
        refine lv_aload_n C.1 C.2.1 dX12_twice_11 rfl (lv_at hl 1 rfl) ?_
        refine m_get C hM 18 (v := .int (σ.1 18)) (by decide) zw_26_0 rfl rfl dX12_twice_12 ?_
        refine z_re (y := zI ((nf : Nat) : Int)) hL.2.2.2.2.2.2.2.1 ?_
        refine y_icmp_ge (tgt := 22) C (a := ((i : Nat) : Int)) (b := ((nf : Nat) : Int)) dX12_twice_15 (by decide) (by omega) (fun h15 => ?_) (fun h15 => ?_)
        · refine lv_aload_n C.1 C.2.1 dX12_twice_22 rfl (lv_at hl 1 rfl) ?_
          refine m_get C hM 18 (v := .int (σ.1 18)) (by decide) zw_26_0 rfl rfl dX12_twice_23 ?_
          refine z_re (y := zI ((nf : Nat) : Int)) hL.2.2.2.2.2.2.2.1 ?_
          refine lv_istore_n (lv' := [(2, zN nf), (1, zN i), (0, .ref o)]) C.1 C.2.1 dX12_twice_26 rfl hl (by decide) rfl (fun ls hl => ?_)
          have hl : lv_has ls 4 [(2, zN (from11 nf i)), (1, zN i), (0, .ref o)] := by rw [show from11 nf i = nf from by unfold from11; rw [if_neg (by omega)]]; exact hl
          have hfr : from11 nf i ≤ i := by unfold from11; split <;> omega
          refine lv_iload_n C.1 C.2.1 dX12_twice_27 rfl (lv_at hl 0 rfl) ?_
          refine lv_istore_n (lv' := [(3, zN (from11 nf i)), (2, zN (from11 nf i)), (1, zN i), (0, .ref o)]) C.1 C.2.1 dX12_twice_28 rfl hl (by decide) rfl (fun ls hl => ?_)
          have loopI : ∀ (fv : Nat) (j : Nat) (H : Heap) (ls : Array Slot) (locs : List Loc), va_S (mA o ad) s.heap H locs → isM Z H o ad σ → (j + fv = i + 1 ∧ j ≤ i) → (fst1 (g11 F tb mt i) (i - j) j = g11i F tb mt nf i) → lv_has ls 4 [(3, zN j), (2, zN (from11 nf i)), (1, zN i), (0, .ref o)] → W p l e (rmk 3) s m args below meth c H locs 0 0 Q (F0 m 29 ls []) := by
            intro fv
            induction fv with
            | zero =>
              intro j H ls locs hS hM hj hy hl
              omega
            | succ fv ih_loopI =>
              intro j H ls locs hS hM hj hy hl
              refine lv_iload_n C.1 C.2.1 dX12_twice_29 rfl (lv_at hl 0 rfl) ?_
              refine lv_iload_n C.1 C.2.1 dX12_twice_30 rfl (lv_at hl 2 rfl) ?_
              refine y_icmp_ge (tgt := 90) C (a := ((j : Nat) : Int)) (b := ((i : Nat) : Int)) dX12_twice_31 (by decide) (by omega) (fun h31 => ?_) (fun h31 => ?_)
              · refine lv_iinc (v := zI ((i + 1 : Nat) : Int)) (lv' := [(1, zN (i + 1)), (3, zN j), (2, zN (from11 nf i)), (0, .ref o)]) C.1 C.2.1 dX12_twice_90 hl (k := 2) rfl (zI_add _ _) (by decide) rfl (fun ls hl => ?_)
                refine lv_goto (tgt := 2) C.1 C.2.1 dX12_twice_93 (by decide) ?_
                exact ih_loopO (i + 1) _ ls _ hS hM (by omega) (by rw [← hx, hu, fst1_s (by rw [← hy, show i - j = 0 by omega]; rfl)]; rw [show nf + nm - (i + 1) = nf + nm - i - 1 by omega]) (lv_sub hl [0, 3] rfl)
              · have hv : i - j = (i - j - 1) + 1 := by omega
                have hmj := (hMt j (by omega)).2.1
                refine lv_aload_n C.1 C.2.1 dX12_twice_34 rfl (lv_at hl 3 rfl) ?_
                refine lv_aload_n C.1 C.2.1 dX12_twice_35 rfl (lv_at hl 3 rfl) ?_
                refine lv_aload_n C.1 C.2.1 dX12_twice_36 rfl (lv_at hl 3 rfl) ?_
                refine lv_aload_n C.1 C.2.1 dX12_twice_37 rfl (lv_at hl 3 rfl) ?_
                refine m_get C hM 20 (v := .ref (ad 20)) (by decide) zw_5_4 rfl rfl dX12_twice_38 ?_
                refine lv_iload_n C.1 C.2.1 dX12_twice_41 rfl (lv_at hl 0 rfl) ?_
                refine m_ald C hM 20 (by decide) j (t := ((j : Nat) : Int)) rfl (by show _ < 48; omega) dX12_twice_42 ?_
                refine z_re (y := zI ((mt j : Nat) : Int)) ((hMt j (by omega)).1) ?_
                refine lv_iconst (v := zI 2) C.1 C.2.1 dX12_twice_43 (by decide) ?_
                refine y_iaddN C (a := mt j) (b := 2) dX12_twice_44 ?_
                refine z_readV C (As := [zN ((mt j) + 2)]) (rest := [.ref o, .ref o]) (c_X12_two l Z hM hB ((mt j) + 2) rfl (by omega)) hM.1 rfl ⟨⟨zw_27_11, zw_1_5, zw_27_8⟩, zd_X12_two⟩ zw_27_9 zw_27_10 ⟨Nat.le_of_ble_eq_true rfl, Nat.le_of_ble_eq_true rfl⟩ ⟨rfl, rfl⟩ rfl hl.1 rfl (Nat.le_of_ble_eq_true rfl) dX12_twice_45 ⟨Nat.zero_le _, Nat.zero_le _⟩ hS (fun locs hS => ?_)
                have := U2_lt hB.1 ((mt j) + 2)
                refine lv_aload_n C.1 C.2.1 dX12_twice_48 rfl (lv_at hl 3 rfl) ?_
                refine lv_aload_n C.1 C.2.1 dX12_twice_49 rfl (lv_at hl 3 rfl) ?_
                refine m_get C hM 20 (v := .ref (ad 20)) (by decide) zw_5_4 rfl rfl dX12_twice_50 ?_
                refine lv_iload_n C.1 C.2.1 dX12_twice_53 rfl (lv_at hl 2 rfl) ?_
                refine m_ald C hM 20 (by decide) i (t := ((i : Nat) : Int)) rfl (by show _ < 48; omega) dX12_twice_54 ?_
                refine z_re (y := zI ((mt i : Nat) : Int)) ((hMt i (by omega)).1) ?_
                refine lv_iconst (v := zI 2) C.1 C.2.1 dX12_twice_55 (by decide) ?_
                refine y_iaddN C (a := mt i) (b := 2) dX12_twice_56 ?_
                refine z_readV C (As := [zN ((mt i) + 2)]) (rest := [zN (U2 F ((mt j) + 2)), .ref o, .ref o]) (c_X12_two l Z hM hB ((mt i) + 2) rfl (by omega)) hM.1 rfl ⟨⟨zw_27_11, zw_1_5, zw_27_8⟩, zd_X12_two⟩ zw_27_9 zw_27_10 ⟨Nat.le_of_ble_eq_true rfl, Nat.le_of_ble_eq_true rfl⟩ ⟨rfl, rfl⟩ rfl hl.1 rfl (Nat.le_of_ble_eq_true rfl) dX12_twice_57 ⟨Nat.zero_le _, Nat.zero_le _⟩ hS (fun locs hS => ?_)
                have := U2_lt hB.1 ((mt i) + 2)
                refine z_readV C (As := [zN (U2 F ((mt j) + 2)), zN (U2 F ((mt i) + 2))]) (rest := [.ref o]) (c_X12_isSame l Z hM hB (hL.nm (x9_m h9 (i := j) (by omega)).1) (hL.nm (x9_m h9 (i := i) (by omega)).1)) hM.1 rfl ⟨⟨zw_30_14, zw_1_5, zw_30_11⟩, zd_X12_isSame⟩ zw_30_12 zw_30_13 ⟨Nat.le_of_ble_eq_true rfl, Nat.le_of_ble_eq_true rfl⟩ ⟨rfl, rfl⟩ rfl hl.1 rfl (Nat.le_of_ble_eq_true rfl) dX12_twice_60 ⟨Nat.zero_le _, Nat.zero_le _⟩ hS (fun locs hS => ?_)
                refine y_ifb_ne (tgt := 70) C dX12_twice_63 (by decide) (fun h63 => ?_) (fun h63 => ?_)
                · refine lv_iconst (v := zI 0) C.1 C.2.1 dX12_twice_70 (by decide) ?_
                  refine lv_bipush (v := zI 11) C.1 C.2.1 dX12_twice_71 (by decide) ?_
                  refine lv_aload_n C.1 C.2.1 dX12_twice_73 rfl (lv_at hl 3 rfl) ?_
                  refine m_get C hM 20 (v := .ref (ad 20)) (by decide) zw_5_4 rfl rfl dX12_twice_74 ?_
                  refine lv_iload_n C.1 C.2.1 dX12_twice_77 rfl (lv_at hl 2 rfl) ?_
                  refine m_ald C hM 20 (by decide) i (t := ((i : Nat) : Int)) rfl (by show _ < 48; omega) dX12_twice_78 ?_
                  refine z_re (y := zI ((mt i : Nat) : Int)) ((hMt i (by omega)).1) ?_
                  refine lv_iconst (v := zI 2) C.1 C.2.1 dX12_twice_79 (by decide) ?_
                  refine y_iaddN C (a := mt i) (b := 2) dX12_twice_80 ?_
                  refine z_callVX C (As := [zV (bI false), zN 11, zN ((mt i) + 2)]) (rest := []) (c_X12_must l Z hM false (zI 11) (zI (((mt i) + 2 : Nat) : Int))) hM.1 rfl ⟨⟨zw_26_16, zw_1_5, zw_26_13⟩, zd_X12_must⟩ zw_26_14 zw_26_15 ⟨Nat.le_of_ble_eq_true rfl, Nat.le_of_ble_eq_true rfl⟩ ⟨rfl, rfl⟩ rfl hl.1 rfl (Nat.le_of_ble_eq_true rfl) dX12_twice_81 ⟨Nat.zero_le _, Nat.zero_le _⟩ hS (fun _ h => h) (fun H9 locs9 q9 ce9 hp9 hS9 _ _ g1 g2 g3 => ?_) (fun v H locs hp hS _ _ => ?_)
                  · exact hth _ _ _ _ _ _ _ hS9 (⟨mt i + 2, (by rw [← hx, hu]; exact fst1_e (by rw [← hy, hv]; exact fst1_e (by unfold g11; rw [if_pos (show sameK F tb (U2 F (mt j + 2)) (U2 F (mt i + 2)) = true from h63)]))), ⟨_, hp9.2, rfl, rfl, (chg_sx (by decide) (chg_sx (by decide) chg.rf))⟩⟩) g1 g2 g3
                  exact absurd hp.1 (by decide)
                · refine lv_iconst (v := zI 1) C.1 C.2.1 dX12_twice_66 (by decide) ?_
                  refine lv_goto (tgt := 71) C.1 C.2.1 dX12_twice_67 (by decide) ?_
                  refine lv_bipush (v := zI 11) C.1 C.2.1 dX12_twice_71 (by decide) ?_
                  refine lv_aload_n C.1 C.2.1 dX12_twice_73 rfl (lv_at hl 3 rfl) ?_
                  refine m_get C hM 20 (v := .ref (ad 20)) (by decide) zw_5_4 rfl rfl dX12_twice_74 ?_
                  refine lv_iload_n C.1 C.2.1 dX12_twice_77 rfl (lv_at hl 2 rfl) ?_
                  refine m_ald C hM 20 (by decide) i (t := ((i : Nat) : Int)) rfl (by show _ < 48; omega) dX12_twice_78 ?_
                  refine z_re (y := zI ((mt i : Nat) : Int)) ((hMt i (by omega)).1) ?_
                  refine lv_iconst (v := zI 2) C.1 C.2.1 dX12_twice_79 (by decide) ?_
                  refine y_iaddN C (a := mt i) (b := 2) dX12_twice_80 ?_
                  refine z_callVX C (As := [zV (bI true), zN 11, zN ((mt i) + 2)]) (rest := []) (c_X12_must l Z hM true (zI 11) (zI (((mt i) + 2 : Nat) : Int))) hM.1 rfl ⟨⟨zw_26_16, zw_1_5, zw_26_13⟩, zd_X12_must⟩ zw_26_14 zw_26_15 ⟨Nat.le_of_ble_eq_true rfl, Nat.le_of_ble_eq_true rfl⟩ ⟨rfl, rfl⟩ rfl hl.1 rfl (Nat.le_of_ble_eq_true rfl) dX12_twice_81 ⟨Nat.zero_le _, Nat.zero_le _⟩ hS (fun _ h => h) (fun H9 locs9 q9 ce9 hp9 hS9 _ _ g1 g2 g3 => ?_) (fun v H locs hp hS _ _ => ?_)
                  · exact absurd hp9.1 (by decide)
                  obtain ⟨-, rfl, hM⟩ := hp
                  refine lv_iinc (v := zI ((j + 1 : Nat) : Int)) (lv' := [(3, zN (j + 1)), (2, zN (from11 nf i)), (1, zN i), (0, .ref o)]) C.1 C.2.1 dX12_twice_84 hl (k := 0) rfl (zI_add _ _) (by decide) rfl (fun ls hl => ?_)
                  refine lv_goto (tgt := 29) C.1 C.2.1 dX12_twice_87 (by decide) ?_
                  exact ih_loopI (j + 1) _ ls _ hS hM (by omega) (by rw [← hy, hv, fst1_s (by unfold g11; rw [if_neg (by rw [show sameK F tb (U2 F (mt j + 2)) (U2 F (mt i + 2)) = false from h63]; decide)])]; rw [show i - (j + 1) = i - j - 1 by omega]) hl
          exact loopI (i + 1 - from11 nf i) (from11 nf i) _ ls _ hS hM (by omega) rfl hl
        · refine lv_iconst (v := zI 0) C.1 C.2.1 dX12_twice_18 (by decide) ?_
          refine lv_goto (tgt := 26) C.1 C.2.1 dX12_twice_19 (by decide) ?_
          refine lv_istore_n (lv' := [(2, zN 0), (1, zN i), (0, .ref o)]) C.1 C.2.1 dX12_twice_26 rfl hl (by decide) rfl (fun ls hl => ?_)
          have hl : lv_has ls 4 [(2, zN (from11 nf i)), (1, zN i), (0, .ref o)] := by rw [show from11 nf i = 0 from by unfold from11; rw [if_pos (by omega)]]; exact hl
          have hfr : from11 nf i ≤ i := by unfold from11; split <;> omega
          refine lv_iload_n C.1 C.2.1 dX12_twice_27 rfl (lv_at hl 0 rfl) ?_
          refine lv_istore_n (lv' := [(3, zN (from11 nf i)), (2, zN (from11 nf i)), (1, zN i), (0, .ref o)]) C.1 C.2.1 dX12_twice_28 rfl hl (by decide) rfl (fun ls hl => ?_)
          have loopI : ∀ (fv : Nat) (j : Nat) (H : Heap) (ls : Array Slot) (locs : List Loc), va_S (mA o ad) s.heap H locs → isM Z H o ad σ → (j + fv = i + 1 ∧ j ≤ i) → (fst1 (g11 F tb mt i) (i - j) j = g11i F tb mt nf i) → lv_has ls 4 [(3, zN j), (2, zN (from11 nf i)), (1, zN i), (0, .ref o)] → W p l e (rmk 3) s m args below meth c H locs 0 0 Q (F0 m 29 ls []) := by
            intro fv
            induction fv with
            | zero =>
              intro j H ls locs hS hM hj hy hl
              omega
            | succ fv ih_loopI =>
              intro j H ls locs hS hM hj hy hl
              refine lv_iload_n C.1 C.2.1 dX12_twice_29 rfl (lv_at hl 0 rfl) ?_
              refine lv_iload_n C.1 C.2.1 dX12_twice_30 rfl (lv_at hl 2 rfl) ?_
              refine y_icmp_ge (tgt := 90) C (a := ((j : Nat) : Int)) (b := ((i : Nat) : Int)) dX12_twice_31 (by decide) (by omega) (fun h31 => ?_) (fun h31 => ?_)
              · refine lv_iinc (v := zI ((i + 1 : Nat) : Int)) (lv' := [(1, zN (i + 1)), (3, zN j), (2, zN (from11 nf i)), (0, .ref o)]) C.1 C.2.1 dX12_twice_90 hl (k := 2) rfl (zI_add _ _) (by decide) rfl (fun ls hl => ?_)
                refine lv_goto (tgt := 2) C.1 C.2.1 dX12_twice_93 (by decide) ?_
                exact ih_loopO (i + 1) _ ls _ hS hM (by omega) (by rw [← hx, hu, fst1_s (by rw [← hy, show i - j = 0 by omega]; rfl)]; rw [show nf + nm - (i + 1) = nf + nm - i - 1 by omega]) (lv_sub hl [0, 3] rfl)
              · have hv : i - j = (i - j - 1) + 1 := by omega
                have hmj := (hMt j (by omega)).2.1
                refine lv_aload_n C.1 C.2.1 dX12_twice_34 rfl (lv_at hl 3 rfl) ?_
                refine lv_aload_n C.1 C.2.1 dX12_twice_35 rfl (lv_at hl 3 rfl) ?_
                refine lv_aload_n C.1 C.2.1 dX12_twice_36 rfl (lv_at hl 3 rfl) ?_
                refine lv_aload_n C.1 C.2.1 dX12_twice_37 rfl (lv_at hl 3 rfl) ?_
                refine m_get C hM 20 (v := .ref (ad 20)) (by decide) zw_5_4 rfl rfl dX12_twice_38 ?_
                refine lv_iload_n C.1 C.2.1 dX12_twice_41 rfl (lv_at hl 0 rfl) ?_
                refine m_ald C hM 20 (by decide) j (t := ((j : Nat) : Int)) rfl (by show _ < 48; omega) dX12_twice_42 ?_
                refine z_re (y := zI ((mt j : Nat) : Int)) ((hMt j (by omega)).1) ?_
                refine lv_iconst (v := zI 2) C.1 C.2.1 dX12_twice_43 (by decide) ?_
                refine y_iaddN C (a := mt j) (b := 2) dX12_twice_44 ?_
                refine z_readV C (As := [zN ((mt j) + 2)]) (rest := [.ref o, .ref o]) (c_X12_two l Z hM hB ((mt j) + 2) rfl (by omega)) hM.1 rfl ⟨⟨zw_27_11, zw_1_5, zw_27_8⟩, zd_X12_two⟩ zw_27_9 zw_27_10 ⟨Nat.le_of_ble_eq_true rfl, Nat.le_of_ble_eq_true rfl⟩ ⟨rfl, rfl⟩ rfl hl.1 rfl (Nat.le_of_ble_eq_true rfl) dX12_twice_45 ⟨Nat.zero_le _, Nat.zero_le _⟩ hS (fun locs hS => ?_)
                have := U2_lt hB.1 ((mt j) + 2)
                refine lv_aload_n C.1 C.2.1 dX12_twice_48 rfl (lv_at hl 3 rfl) ?_
                refine lv_aload_n C.1 C.2.1 dX12_twice_49 rfl (lv_at hl 3 rfl) ?_
                refine m_get C hM 20 (v := .ref (ad 20)) (by decide) zw_5_4 rfl rfl dX12_twice_50 ?_
                refine lv_iload_n C.1 C.2.1 dX12_twice_53 rfl (lv_at hl 2 rfl) ?_
                refine m_ald C hM 20 (by decide) i (t := ((i : Nat) : Int)) rfl (by show _ < 48; omega) dX12_twice_54 ?_
                refine z_re (y := zI ((mt i : Nat) : Int)) ((hMt i (by omega)).1) ?_
                refine lv_iconst (v := zI 2) C.1 C.2.1 dX12_twice_55 (by decide) ?_
                refine y_iaddN C (a := mt i) (b := 2) dX12_twice_56 ?_
                refine z_readV C (As := [zN ((mt i) + 2)]) (rest := [zN (U2 F ((mt j) + 2)), .ref o, .ref o]) (c_X12_two l Z hM hB ((mt i) + 2) rfl (by omega)) hM.1 rfl ⟨⟨zw_27_11, zw_1_5, zw_27_8⟩, zd_X12_two⟩ zw_27_9 zw_27_10 ⟨Nat.le_of_ble_eq_true rfl, Nat.le_of_ble_eq_true rfl⟩ ⟨rfl, rfl⟩ rfl hl.1 rfl (Nat.le_of_ble_eq_true rfl) dX12_twice_57 ⟨Nat.zero_le _, Nat.zero_le _⟩ hS (fun locs hS => ?_)
                have := U2_lt hB.1 ((mt i) + 2)
                refine z_readV C (As := [zN (U2 F ((mt j) + 2)), zN (U2 F ((mt i) + 2))]) (rest := [.ref o]) (c_X12_isSame l Z hM hB (hL.nm (x9_m h9 (i := j) (by omega)).1) (hL.nm (x9_m h9 (i := i) (by omega)).1)) hM.1 rfl ⟨⟨zw_30_14, zw_1_5, zw_30_11⟩, zd_X12_isSame⟩ zw_30_12 zw_30_13 ⟨Nat.le_of_ble_eq_true rfl, Nat.le_of_ble_eq_true rfl⟩ ⟨rfl, rfl⟩ rfl hl.1 rfl (Nat.le_of_ble_eq_true rfl) dX12_twice_60 ⟨Nat.zero_le _, Nat.zero_le _⟩ hS (fun locs hS => ?_)
                refine y_ifb_ne (tgt := 70) C dX12_twice_63 (by decide) (fun h63 => ?_) (fun h63 => ?_)
                · refine lv_iconst (v := zI 0) C.1 C.2.1 dX12_twice_70 (by decide) ?_
                  refine lv_bipush (v := zI 11) C.1 C.2.1 dX12_twice_71 (by decide) ?_
                  refine lv_aload_n C.1 C.2.1 dX12_twice_73 rfl (lv_at hl 3 rfl) ?_
                  refine m_get C hM 20 (v := .ref (ad 20)) (by decide) zw_5_4 rfl rfl dX12_twice_74 ?_
                  refine lv_iload_n C.1 C.2.1 dX12_twice_77 rfl (lv_at hl 2 rfl) ?_
                  refine m_ald C hM 20 (by decide) i (t := ((i : Nat) : Int)) rfl (by show _ < 48; omega) dX12_twice_78 ?_
                  refine z_re (y := zI ((mt i : Nat) : Int)) ((hMt i (by omega)).1) ?_
                  refine lv_iconst (v := zI 2) C.1 C.2.1 dX12_twice_79 (by decide) ?_
                  refine y_iaddN C (a := mt i) (b := 2) dX12_twice_80 ?_
                  refine z_callVX C (As := [zV (bI false), zN 11, zN ((mt i) + 2)]) (rest := []) (c_X12_must l Z hM false (zI 11) (zI (((mt i) + 2 : Nat) : Int))) hM.1 rfl ⟨⟨zw_26_16, zw_1_5, zw_26_13⟩, zd_X12_must⟩ zw_26_14 zw_26_15 ⟨Nat.le_of_ble_eq_true rfl, Nat.le_of_ble_eq_true rfl⟩ ⟨rfl, rfl⟩ rfl hl.1 rfl (Nat.le_of_ble_eq_true rfl) dX12_twice_81 ⟨Nat.zero_le _, Nat.zero_le _⟩ hS (fun _ h => h) (fun H9 locs9 q9 ce9 hp9 hS9 _ _ g1 g2 g3 => ?_) (fun v H locs hp hS _ _ => ?_)
                  · exact hth _ _ _ _ _ _ _ hS9 (⟨mt i + 2, (by rw [← hx, hu]; exact fst1_e (by rw [← hy, hv]; exact fst1_e (by unfold g11; rw [if_pos (show sameK F tb (U2 F (mt j + 2)) (U2 F (mt i + 2)) = true from h63)]))), ⟨_, hp9.2, rfl, rfl, (chg_sx (by decide) (chg_sx (by decide) chg.rf))⟩⟩) g1 g2 g3
                  exact absurd hp.1 (by decide)
                · refine lv_iconst (v := zI 1) C.1 C.2.1 dX12_twice_66 (by decide) ?_
                  refine lv_goto (tgt := 71) C.1 C.2.1 dX12_twice_67 (by decide) ?_
                  refine lv_bipush (v := zI 11) C.1 C.2.1 dX12_twice_71 (by decide) ?_
                  refine lv_aload_n C.1 C.2.1 dX12_twice_73 rfl (lv_at hl 3 rfl) ?_
                  refine m_get C hM 20 (v := .ref (ad 20)) (by decide) zw_5_4 rfl rfl dX12_twice_74 ?_
                  refine lv_iload_n C.1 C.2.1 dX12_twice_77 rfl (lv_at hl 2 rfl) ?_
                  refine m_ald C hM 20 (by decide) i (t := ((i : Nat) : Int)) rfl (by show _ < 48; omega) dX12_twice_78 ?_
                  refine z_re (y := zI ((mt i : Nat) : Int)) ((hMt i (by omega)).1) ?_
                  refine lv_iconst (v := zI 2) C.1 C.2.1 dX12_twice_79 (by decide) ?_
                  refine y_iaddN C (a := mt i) (b := 2) dX12_twice_80 ?_
                  refine z_callVX C (As := [zV (bI true), zN 11, zN ((mt i) + 2)]) (rest := []) (c_X12_must l Z hM true (zI 11) (zI (((mt i) + 2 : Nat) : Int))) hM.1 rfl ⟨⟨zw_26_16, zw_1_5, zw_26_13⟩, zd_X12_must⟩ zw_26_14 zw_26_15 ⟨Nat.le_of_ble_eq_true rfl, Nat.le_of_ble_eq_true rfl⟩ ⟨rfl, rfl⟩ rfl hl.1 rfl (Nat.le_of_ble_eq_true rfl) dX12_twice_81 ⟨Nat.zero_le _, Nat.zero_le _⟩ hS (fun _ h => h) (fun H9 locs9 q9 ce9 hp9 hS9 _ _ g1 g2 g3 => ?_) (fun v H locs hp hS _ _ => ?_)
                  · exact absurd hp9.1 (by decide)
                  obtain ⟨-, rfl, hM⟩ := hp
                  refine lv_iinc (v := zI ((j + 1 : Nat) : Int)) (lv' := [(3, zN (j + 1)), (2, zN (from11 nf i)), (1, zN i), (0, .ref o)]) C.1 C.2.1 dX12_twice_84 hl (k := 0) rfl (zI_add _ _) (by decide) rfl (fun ls hl => ?_)
                  refine lv_goto (tgt := 29) C.1 C.2.1 dX12_twice_87 (by decide) ?_
                  exact ih_loopI (j + 1) _ ls _ hS hM (by omega) (by rw [← hy, hv, fst1_s (by unfold g11; rw [if_neg (by rw [show sameK F tb (U2 F (mt j + 2)) (U2 F (mt i + 2)) = false from h63]; decide)])]; rw [show i - (j + 1) = i - j - 1 by omega]) hl
          exact loopI (i + 1 - from11 nf i) (from11 nf i) _ ls _ hS hM (by omega) rfl hl
  exact loopO (nf + nm + 1) 0 _ ls _ hS hM (by omega) rfl hl

def cdR (F tb : Nat → Nat) (a : Nat) : Int := if (cdA F tb a).1 = 0 then -1 else if (cdA F tb a).1 = 1 then ((cdA F tb a).2 : Int) else -2
def cdV (F tb : Nat → Nat) (a k : Nat) : Int := if (cdL F tb a k).1 = 0 then -1 else ((cdL F tb a k).2 : Int)
theorem cdL_t {F tb : Nat → Nat} {a k : Nat} (h : isTxK F tb (U2 F (atp F a k)) 0 = true) : cdL F tb a (k + 1) = ((cdL F tb a k).1 + 1, atp F a k) := by
  conv => lhs; unfold cdL
  rw [if_pos h]
theorem cdL_f {F tb : Nat → Nat} {a k : Nat} (h : isTxK F tb (U2 F (atp F a k)) 0 = false) : cdL F tb a (k + 1) = cdL F tb a k := by
  conv => lhs; unfold cdL
  rw [if_neg (by rw [h]; decide)]
theorem cdL_in {F tb : Nat → Nat} {n a : Nat} : ∀ k, (∀ j, j < k → atp F a j ≤ n) → (cdL F tb a k).1 ≠ 0 → (cdL F tb a k).2 ≤ n := by
  intro k
  induction k with
  | zero => intro _ h; exact absurd rfl h
  | succ k ih =>
    intro h h2
    by_cases h3 : isTxK F tb (U2 F (atp F a k)) 0 = true
    · rw [cdL_t h3]
      exact h k (by omega)
    · rw [Bool.not_eq_true] at h3
      rw [cdL_f h3] at h2 ⊢
      exact ih (fun j hj => h j (by omega)) h2
theorem cdL_le {F tb : Nat → Nat} {a : Nat} : ∀ c k, k ≤ c → (cdL F tb a k).1 ≤ (cdL F tb a c).1 := by
  intro c
  induction c with
  | zero => intro k h; rw [show k = 0 by omega]; exact Nat.le_refl _
  | succ c ih =>
    intro k h
    rcases Nat.lt_or_ge k (c + 1) with h2 | h2
    · have := ih k (by omega)
      have e : (cdL F tb a c).1 ≤ (cdL F tb a (c + 1)).1 := by
        conv => rhs; unfold cdL
        split
        · exact Nat.le_succ _
        · exact Nat.le_refl _
      omega
    · rw [show k = c + 1 by omega]; exact Nat.le_refl _

set_option maxHeartbeats 4000000 in
set_option maxRecDepth 20000 in
theorem c_X12_codeOf (l : Launch) (Z : zT) {H : Heap} {o : Nat} {ad : Nat → Nat} {σ : mS} (hM : isM Z H o ad σ) {F : Nat → Nat} {n : Nat} (hB : mSrc σ F n) {cl nf nm fa last : Nat} {tb mt : Nat → Nat} (hL : mLay σ F n tb cl nf nm mt fa last) (hx9 : x9 F tb (U2 F 8) mt (nf + nm) fa = none) {t : Int} (i : Nat) (ht : t = (i : Int)) (hi0 : i < nf + nm) : zP l Z yX12_codeOf cX12_codeOf 4 (some .int) (rmk 6) [.ref o, zV t] H (zV (cdR F tb (mt i + 6))) := by
  subst ht
  have hn := hB.2.2.2
  have hpc := hL.2.1
  have hcl := hL.2.2.2.2.2.1
  have hnf := hL.2.2.2.2.2.2.2.2.1
  have hnm := hL.2.2.2.2.2.2.2.2.2.1
  have hMt := hL.2.2.2.2.2.2.2.2.2.2.1
  have hna := hL.2.2.2.2.2.2.2.2.2.2.2.2.1
  have hfa := hL.2.2.2.2.2.2.2.2.2.2.2.2.2.1
  have hab : abase F mt i + U2 F (mt i + 6) ≤ abase F mt (nf + nm) := abase_le (i := i + 1) _ (by omega)
  have hcv : ∀ k, k ≤ U2 F (mt i + 6) → -1 ≤ cdV F tb (mt i + 6) k ∧ cdV F tb (mt i + 6) k ≤ 16000 := fun k hk => by
      unfold cdV
      split
      · omega
      · rename_i h
        have := cdL_in (n := n) k (fun j hj => by have := ((hMt i hi0).2.2 j (by omega)).2.2.1; omega) h
        omega
  refine zM.introI (own := RX12) ⟨by decide, rfl⟩ (Nat.le_of_ble_eq_true rfl) ?_
  intro p e s m args below meth c Q ls hH C hl hret
  have hS : va_S (fun _ => False) s.heap H [] := by rw [hH]; exact va_S.rf
  have hl : lv_has ls 4 [(0, .ref o), (1, zN i)] := hl
  refine lv_iconst (v := zI (-1)) C.1 C.2.1 dX12_codeOf_0 (by decide) ?_
  refine lv_istore_n (lv' := [(2, zV (-1)), (0, .ref o), (1, zN i)]) C.1 C.2.1 dX12_codeOf_1 rfl hl (by decide) rfl (fun ls hl => ?_)
  refine lv_iconst (v := zI 0) C.1 C.2.1 dX12_codeOf_2 (by decide) ?_
  have hl : lv_has ls 4 [(2, zV (cdV F tb (mt i + 6) (min (0 - abase F mt i) (U2 F (mt i + 6))))), (0, .ref o), (1, zN i)] := by rw [show (cdV F tb (mt i + 6) (min (0 - abase F mt i) (U2 F (mt i + 6))) : Int) = -1 from by rw [show min (0 - abase F mt i) (U2 F (mt i + 6)) = 0 by omega]; rfl]; exact hl
  refine lv_istore_n (lv' := [(3, zN 0), (2, zV (cdV F tb (mt i + 6) (min (0 - abase F mt i) (U2 F (mt i + 6))))), (0, .ref o), (1, zN i)]) C.1 C.2.1 dX12_codeOf_3 rfl hl (by decide) rfl (fun ls hl => ?_)
  have loop : ∀ (fu : Nat) (a : Nat) (ls : Array Slot) (locs : List Loc), va_S (fun _ => False) s.heap H locs → (a + fu = abase F mt (nf + nm) + U2 F fa + 1 ∧ a ≤ abase F mt (nf + nm) + U2 F fa) → ((cdL F tb (mt i + 6) (min (a - abase F mt i) (U2 F (mt i + 6)))).1 ≤ 1) → lv_has ls 4 [(3, zN a), (2, zV (cdV F tb (mt i + 6) (min (a - abase F mt i) (U2 F (mt i + 6))))), (0, .ref o), (1, zN i)] → W p l e (rmk 6) s m args below meth c H locs 0 0 Q (F0 m 4 ls []) := by
    intro fu
    induction fu with
    | zero =>
      intro a ls locs hS hi hc1 hl
      omega
    | succ fu ih_loop =>
      intro a ls locs hS hi hc1 hl
      have hcr : -1 ≤ cdV F tb (mt i + 6) (min (a - abase F mt i) (U2 F (mt i + 6))) ∧ cdV F tb (mt i + 6) (min (a - abase F mt i) (U2 F (mt i + 6))) ≤ 16000 := hcv _ (by omega)
      refine lv_iload_n C.1 C.2.1 dX12_codeOf_4 rfl (lv_at hl 0 rfl) ?_
      refine lv_aload_n C.1 C.2.1 dX12_codeOf_5 rfl (lv_at hl 2 rfl) ?_
      refine m_get C hM 21 (v := .int (σ.1 21)) (by decide) zw_26_12 rfl rfl dX12_codeOf_6 ?_
      refine z_re (y := zI ((abase F mt (nf + nm) + U2 F fa : Nat) : Int)) hL.2.2.2.2.2.2.2.2.2.2.2.1 ?_
      refine y_icmp_ge (tgt := 64) C (a := ((a : Nat) : Int)) (b := ((abase F mt (nf + nm) + U2 F fa : Nat) : Int)) dX12_codeOf_9 (by decide) (by omega) (fun h9 => ?_) (fun h9 => ?_)
      · refine lv_iload_n C.1 C.2.1 dX12_codeOf_64 rfl (lv_at hl 1 rfl) ?_
        exact hret _ _ _ _ (zI (cdV F tb (mt i + 6) (min (a - abase F mt i) (U2 F (mt i + 6))))) hS ⟨congrArg (fun x : Int => some (zV x)) (by show cdV F tb (mt i + 6) (min (a - abase F mt i) (U2 F (mt i + 6))) = cdR F tb (mt i + 6); rw [show min (a - abase F mt i) (U2 F (mt i + 6)) = U2 F (mt i + 6) by omega] at hc1 ⊢; unfold cdV cdR cdA; split <;> first | rfl | (rw [if_pos (by omega)])), rfl⟩ rfl dX12_codeOf_65
      · rcases hL.own (a := a) (by omega) with ⟨i2, j, w1, w2, w3, w4, w5, w6⟩ | ⟨w1, w4⟩
        · rcases Nat.lt_trichotomy i2 i with hlt | heq | hgt
          · have hm1 := abase_le (F := F) (mt := mt) (i := i2 + 1) i (by omega)
            have hm2 : abase F mt (i2 + 1) = abase F mt i2 + U2 F (mt i2 + 6) := rfl
            have em : min (a + 1 - abase F mt i) (U2 F (mt i + 6)) = min (a - abase F mt i) (U2 F (mt i + 6)) := by omega
            refine lv_aload_n C.1 C.2.1 dX12_codeOf_12 rfl (lv_at hl 2 rfl) ?_
            refine m_get C hM 23 (v := .ref (ad 23)) (by decide) zw_5_6 rfl rfl dX12_codeOf_13 ?_
            refine lv_iload_n C.1 C.2.1 dX12_codeOf_16 rfl (lv_at hl 0 rfl) ?_
            refine m_ald C hM 23 (by decide) a (t := ((a : Nat) : Int)) rfl (by show _ < 3000; omega) dX12_codeOf_17 ?_
            refine z_re (y := zI ((i2 : Nat) : Int)) w4 ?_
            refine lv_iload_n C.1 C.2.1 dX12_codeOf_18 rfl (lv_at hl 3 rfl) ?_
            refine y_icmp_ne (tgt := 58) C (a := ((i2 : Nat) : Int)) (b := ((i : Nat) : Int)) dX12_codeOf_19 (by decide) (by omega) (fun h19 => ?_) (fun h19 => ?_)
            · refine lv_iinc (v := zI ((a + 1 : Nat) : Int)) (lv' := [(3, zN (a + 1)), (2, zV (cdV F tb (mt i + 6) (min (a - abase F mt i) (U2 F (mt i + 6))))), (0, .ref o), (1, zN i)]) C.1 C.2.1 dX12_codeOf_58 hl (k := 0) rfl (zI_add _ _) (by decide) rfl (fun ls hl => ?_)
              have hl : lv_has ls 4 [(3, zN (a + 1)), (2, zV (cdV F tb (mt i + 6) (min (a + 1 - abase F mt i) (U2 F (mt i + 6))))), (0, .ref o), (1, zN i)] := by rw [show (cdV F tb (mt i + 6) (min (a + 1 - abase F mt i) (U2 F (mt i + 6))) : Int) = cdV F tb (mt i + 6) (min (a - abase F mt i) (U2 F (mt i + 6))) from by rw [em]]; exact hl
              refine lv_goto (tgt := 4) C.1 C.2.1 dX12_codeOf_61 (by decide) ?_
              exact ih_loop (a + 1) ls _ hS (by omega) (by rw [em]; exact hc1) hl
            · exact absurd h19 (by omega)
          · subst heq
            have em : min (a - abase F mt i2) (U2 F (mt i2 + 6)) = j := by omega
            have em1 : min (a + 1 - abase F mt i2) (U2 F (mt i2 + 6)) = j + 1 := by omega
            have hat := w6.1
            rw [em] at hc1
            refine lv_aload_n C.1 C.2.1 dX12_codeOf_12 rfl (lv_at hl 2 rfl) ?_
            refine m_get C hM 23 (v := .ref (ad 23)) (by decide) zw_5_6 rfl rfl dX12_codeOf_13 ?_
            refine lv_iload_n C.1 C.2.1 dX12_codeOf_16 rfl (lv_at hl 0 rfl) ?_
            refine m_ald C hM 23 (by decide) a (t := ((a : Nat) : Int)) rfl (by show _ < 3000; omega) dX12_codeOf_17 ?_
            refine z_re (y := zI ((i2 : Nat) : Int)) w4 ?_
            refine lv_iload_n C.1 C.2.1 dX12_codeOf_18 rfl (lv_at hl 3 rfl) ?_
            refine y_icmp_ne (tgt := 58) C (a := ((i2 : Nat) : Int)) (b := ((i2 : Nat) : Int)) dX12_codeOf_19 (by decide) (by omega) (fun h19 => ?_) (fun h19 => ?_)
            · exact absurd h19 (by omega)
            · refine lv_aload_n C.1 C.2.1 dX12_codeOf_22 rfl (lv_at hl 2 rfl) ?_
              refine lv_aload_n C.1 C.2.1 dX12_codeOf_23 rfl (lv_at hl 2 rfl) ?_
              refine lv_aload_n C.1 C.2.1 dX12_codeOf_24 rfl (lv_at hl 2 rfl) ?_
              refine m_get C hM 22 (v := .ref (ad 22)) (by decide) zw_5_5 rfl rfl dX12_codeOf_25 ?_
              refine lv_iload_n C.1 C.2.1 dX12_codeOf_28 rfl (lv_at hl 0 rfl) ?_
              refine m_ald C hM 22 (by decide) a (t := ((a : Nat) : Int)) rfl (by show _ < 3000; omega) dX12_codeOf_29 ?_
              refine z_re (y := zI ((atp F (mt i2 + 6) j : Nat) : Int)) w5 ?_
              refine z_readV C (As := [zN (atp F (mt i2 + 6) j)]) (rest := [.ref o]) (c_X12_two l Z hM hB (atp F (mt i2 + 6) j) rfl (by omega)) hM.1 rfl ⟨⟨zw_27_11, zw_1_5, zw_27_8⟩, zd_X12_two⟩ zw_27_9 zw_27_10 ⟨Nat.le_of_ble_eq_true rfl, Nat.le_of_ble_eq_true rfl⟩ ⟨rfl, rfl⟩ rfl hl.1 rfl (Nat.le_of_ble_eq_true rfl) dX12_codeOf_30 ⟨Nat.zero_le _, Nat.zero_le _⟩ hS (fun locs hS => ?_)
              have := U2_lt hB.1 (atp F (mt i2 + 6) j)
              refine va_ldcS C.1 C.2.1 C.2.2.2.1 C.2.2.2.2.2.2.2.2.2.1.1 dX12_codeOf_33 ?_
              refine z_readV C (As := [zN (U2 F (atp F (mt i2 + 6) j)), .ref (Z.2.2.1 0)]) (rest := []) (c_X12_isText l Z hM hB (hL.nm ((x9_m hx9 (i := i2) (by omega)).2.2 j (by omega))) (by omega)) hM.1 rfl ⟨⟨zw_31_2, zw_1_5, zw_30_23⟩, zd_X12_isText⟩ zw_31_0 zw_31_1 ⟨Nat.le_of_ble_eq_true rfl, Nat.le_of_ble_eq_true rfl⟩ ⟨rfl, rfl⟩ rfl hl.1 rfl (Nat.le_of_ble_eq_true rfl) dX12_codeOf_35 ⟨Nat.zero_le _, Nat.zero_le _⟩ hS (fun locs hS => ?_)
              refine y_ifb_ne (tgt := 44) C dX12_codeOf_38 (by decide) (fun h38 => ?_) (fun h38 => ?_)
              · refine lv_iload_n C.1 C.2.1 dX12_codeOf_44 rfl (lv_at hl 1 rfl) ?_
                refine y_if_lt (tgt := 51) C (a := cdV F tb (mt i2 + 6) (min (a - abase F mt i2) (U2 F (mt i2 + 6)))) dX12_codeOf_45 (by decide) (by omega) (fun h45 => ?_) (fun h45 => ?_)
                · have hz0 : (cdL F tb (mt i2 + 6) j).1 = 0 := Classical.byContradiction fun z => by unfold cdV at h45; rw [em, if_neg z] at h45; omega
                  refine lv_aload_n C.1 C.2.1 dX12_codeOf_51 rfl (lv_at hl 2 rfl) ?_
                  refine m_get C hM 22 (v := .ref (ad 22)) (by decide) zw_5_5 rfl rfl dX12_codeOf_52 ?_
                  refine lv_iload_n C.1 C.2.1 dX12_codeOf_55 rfl (lv_at hl 0 rfl) ?_
                  refine m_ald C hM 22 (by decide) a (t := ((a : Nat) : Int)) rfl (by show _ < 3000; omega) dX12_codeOf_56 ?_
                  refine z_re (y := zI ((atp F (mt i2 + 6) j : Nat) : Int)) w5 ?_
                  refine lv_istore_n (lv' := [(2, zN (atp F (mt i2 + 6) j)), (3, zN a), (0, .ref o), (1, zN i2)]) C.1 C.2.1 dX12_codeOf_57 rfl hl (by decide) rfl (fun ls hl => ?_)
                  refine lv_iinc (v := zI ((a + 1 : Nat) : Int)) (lv' := [(3, zN (a + 1)), (2, zN (atp F (mt i2 + 6) j)), (0, .ref o), (1, zN i2)]) C.1 C.2.1 dX12_codeOf_58 hl (k := 1) rfl (zI_add _ _) (by decide) rfl (fun ls hl => ?_)
                  have hl : lv_has ls 4 [(3, zN (a + 1)), (2, zV (cdV F tb (mt i2 + 6) (min (a + 1 - abase F mt i2) (U2 F (mt i2 + 6))))), (0, .ref o), (1, zN i2)] := by rw [show (cdV F tb (mt i2 + 6) (min (a + 1 - abase F mt i2) (U2 F (mt i2 + 6))) : Int) = ((atp F (mt i2 + 6) j : Nat) : Int) from by rw [em1]; unfold cdV; rw [cdL_t h38]; rw [if_neg (Nat.succ_ne_zero _)]]; exact hl
                  refine lv_goto (tgt := 4) C.1 C.2.1 dX12_codeOf_61 (by decide) ?_
                  exact ih_loop (a + 1) ls _ hS (by omega) (by rw [em1, cdL_t h38]; show (cdL F tb (mt i2 + 6) j).1 + 1 ≤ 1; omega) hl
                · refine lv_bipush (v := zI (-2)) C.1 C.2.1 dX12_codeOf_48 (by decide) ?_
                  exact hret _ _ _ _ (zI (-2)) hS ⟨congrArg (fun x : Int => some (zV x)) (by show (-2 : Int) = cdR F tb (mt i2 + 6); have hz := cdL_le (F := F) (tb := tb) (a := mt i2 + 6) (U2 F (mt i2 + 6)) (j + 1) (by omega); rw [cdL_t h38] at hz; have hz2 : (cdL F tb (mt i2 + 6) j).1 ≠ 0 := (fun z => by unfold cdV at h45; rw [em, if_pos z] at h45; omega); have hz3 : (cdL F tb (mt i2 + 6) j).1 + 1 ≤ (cdL F tb (mt i2 + 6) (U2 F (mt i2 + 6))).1 := hz; unfold cdR cdA; rw [if_neg (by omega), if_neg (by omega)]), rfl⟩ rfl dX12_codeOf_50
              · refine lv_goto (tgt := 58) C.1 C.2.1 dX12_codeOf_41 (by decide) ?_
                refine lv_iinc (v := zI ((a + 1 : Nat) : Int)) (lv' := [(3, zN (a + 1)), (2, zV (cdV F tb (mt i2 + 6) (min (a - abase F mt i2) (U2 F (mt i2 + 6))))), (0, .ref o), (1, zN i2)]) C.1 C.2.1 dX12_codeOf_58 hl (k := 0) rfl (zI_add _ _) (by decide) rfl (fun ls hl => ?_)
                have hl : lv_has ls 4 [(3, zN (a + 1)), (2, zV (cdV F tb (mt i2 + 6) (min (a + 1 - abase F mt i2) (U2 F (mt i2 + 6))))), (0, .ref o), (1, zN i2)] := by rw [show (cdV F tb (mt i2 + 6) (min (a + 1 - abase F mt i2) (U2 F (mt i2 + 6))) : Int) = cdV F tb (mt i2 + 6) (min (a - abase F mt i2) (U2 F (mt i2 + 6))) from by rw [em1, em]; unfold cdV; rw [cdL_f h38]]; exact hl
                refine lv_goto (tgt := 4) C.1 C.2.1 dX12_codeOf_61 (by decide) ?_
                exact ih_loop (a + 1) ls _ hS (by omega) (by rw [em1, cdL_f h38]; exact hc1) hl
          · have hm1 := abase_le (F := F) (mt := mt) (i := i + 1) i2 (by omega)
            have hm2 : abase F mt (i + 1) = abase F mt i + U2 F (mt i + 6) := rfl
            have em : min (a + 1 - abase F mt i) (U2 F (mt i + 6)) = min (a - abase F mt i) (U2 F (mt i + 6)) := by omega
            refine lv_aload_n C.1 C.2.1 dX12_codeOf_12 rfl (lv_at hl 2 rfl) ?_
            refine m_get C hM 23 (v := .ref (ad 23)) (by decide) zw_5_6 rfl rfl dX12_codeOf_13 ?_
            refine lv_iload_n C.1 C.2.1 dX12_codeOf_16 rfl (lv_at hl 0 rfl) ?_
            refine m_ald C hM 23 (by decide) a (t := ((a : Nat) : Int)) rfl (by show _ < 3000; omega) dX12_codeOf_17 ?_
            refine z_re (y := zI ((i2 : Nat) : Int)) w4 ?_
            refine lv_iload_n C.1 C.2.1 dX12_codeOf_18 rfl (lv_at hl 3 rfl) ?_
            refine y_icmp_ne (tgt := 58) C (a := ((i2 : Nat) : Int)) (b := ((i : Nat) : Int)) dX12_codeOf_19 (by decide) (by omega) (fun h19 => ?_) (fun h19 => ?_)
            · refine lv_iinc (v := zI ((a + 1 : Nat) : Int)) (lv' := [(3, zN (a + 1)), (2, zV (cdV F tb (mt i + 6) (min (a - abase F mt i) (U2 F (mt i + 6))))), (0, .ref o), (1, zN i)]) C.1 C.2.1 dX12_codeOf_58 hl (k := 0) rfl (zI_add _ _) (by decide) rfl (fun ls hl => ?_)
              have hl : lv_has ls 4 [(3, zN (a + 1)), (2, zV (cdV F tb (mt i + 6) (min (a + 1 - abase F mt i) (U2 F (mt i + 6))))), (0, .ref o), (1, zN i)] := by rw [show (cdV F tb (mt i + 6) (min (a + 1 - abase F mt i) (U2 F (mt i + 6))) : Int) = cdV F tb (mt i + 6) (min (a - abase F mt i) (U2 F (mt i + 6))) from by rw [em]]; exact hl
              refine lv_goto (tgt := 4) C.1 C.2.1 dX12_codeOf_61 (by decide) ?_
              exact ih_loop (a + 1) ls _ hS (by omega) (by rw [em]; exact hc1) hl
            · exact absurd h19 (by omega)
        · have hm1 := abase_le (F := F) (mt := mt) (i := i + 1) (nf + nm) (by omega)
          have hm2 : abase F mt (i + 1) = abase F mt i + U2 F (mt i + 6) := rfl
          have em : min (a + 1 - abase F mt i) (U2 F (mt i + 6)) = min (a - abase F mt i) (U2 F (mt i + 6)) := by omega
          refine lv_aload_n C.1 C.2.1 dX12_codeOf_12 rfl (lv_at hl 2 rfl) ?_
          refine m_get C hM 23 (v := .ref (ad 23)) (by decide) zw_5_6 rfl rfl dX12_codeOf_13 ?_
          refine lv_iload_n C.1 C.2.1 dX12_codeOf_16 rfl (lv_at hl 0 rfl) ?_
          refine m_ald C hM 23 (by decide) a (t := ((a : Nat) : Int)) rfl (by show _ < 3000; omega) dX12_codeOf_17 ?_
          refine z_re (y := zI (-1)) w4 ?_
          refine lv_iload_n C.1 C.2.1 dX12_codeOf_18 rfl (lv_at hl 3 rfl) ?_
          refine y_icmp_ne (tgt := 58) C (a := (-1)) (b := ((i : Nat) : Int)) dX12_codeOf_19 (by decide) (by omega) (fun h19 => ?_) (fun h19 => ?_)
          · refine lv_iinc (v := zI ((a + 1 : Nat) : Int)) (lv' := [(3, zN (a + 1)), (2, zV (cdV F tb (mt i + 6) (min (a - abase F mt i) (U2 F (mt i + 6))))), (0, .ref o), (1, zN i)]) C.1 C.2.1 dX12_codeOf_58 hl (k := 0) rfl (zI_add _ _) (by decide) rfl (fun ls hl => ?_)
            have hl : lv_has ls 4 [(3, zN (a + 1)), (2, zV (cdV F tb (mt i + 6) (min (a + 1 - abase F mt i) (U2 F (mt i + 6))))), (0, .ref o), (1, zN i)] := by rw [show (cdV F tb (mt i + 6) (min (a + 1 - abase F mt i) (U2 F (mt i + 6))) : Int) = cdV F tb (mt i + 6) (min (a - abase F mt i) (U2 F (mt i + 6))) from by rw [em]]; exact hl
            refine lv_goto (tgt := 4) C.1 C.2.1 dX12_codeOf_61 (by decide) ?_
            exact ih_loop (a + 1) ls _ hS (by omega) (by rw [em]; exact hc1) hl
          · exact absurd h19 (by omega)
  exact loop (abase F mt (nf + nm) + U2 F fa + 1) 0 ls _ hS (by omega) (by rw [show min (0 - abase F mt i) (U2 F (mt i + 6)) = 0 by omega]; exact Nat.zero_le _) hl

theorem cdR_ok {F tb : Nat → Nat} {a : Nat} : 0 ≤ cdR F tb a ↔ (cdA F tb a).1 = 1 := by
  unfold cdR
  split
  · omega
  · split
    · constructor
      · intro _; assumption
      · intro _; omega
    · constructor
      · intro h; exact absurd h (by decide)
      · intro h; contradiction
theorem mLay.cdr {σ : mS} {F : Nat → Nat} {n : Nat} {tb mt : Nat → Nat} {cl nf nm fa last : Nat} (hL : mLay σ F n tb cl nf nm mt fa last) {i : Nat} (hi : i < nf + nm) : -2 ≤ cdR F tb (mt i + 6) ∧ cdR F tb (mt i + 6) + 6 ≤ n := by
  have hMt := (hL.2.2.2.2.2.2.2.2.2.2.1 i hi)
  unfold cdR
  split
  · omega
  · split
    · rename_i h _
      have := cdL_in (F := F) (tb := tb) (n := n - 6) (a := mt i + 6) (U2 F (mt i + 6)) (fun j hj => by have := (hMt.2.2 j hj).2.2.1; omega) h
      have h0 := hMt.2.1
      have : (cdA F tb (mt i + 6)).2 ≤ n - 6 := this
      omega
    · omega

set_option maxHeartbeats 4000000 in
set_option maxRecDepth 20000 in
theorem c_X12_codes (l : Launch) (Z : zT) {H : Heap} {o : Nat} {ad : Nat → Nat} {σ : mS} (hM : isM Z H o ad σ) {F : Nat → Nat} {n : Nat} (hB : mSrc σ F n) {cl nf nm fa last : Nat} {tb mt : Nat → Nat} (hL : mLay σ F n tb cl nf nm mt fa last) (hx9 : x9 F tb (U2 F 8) mt (nf + nm) fa = none) : zX l Z yX12_codes cX12_codes 2 none (rmk 7) [.ref o] H (mA o ad) 0 0 (fun v H' => v = none ∧ x12 F tb mt nf (nf + nm) = none ∧ isM Z H' o ad σ) (fun H' => ∃ w9 : Nat, x12 F tb mt nf (nf + nm) = some w9 ∧ mBrk Z o ad [4, 5] [] σ 12 w9 H') := by
  have hn := hB.2.2.2
  have hpc := hL.2.1
  have hcl := hL.2.2.2.2.2.1
  have hnf := hL.2.2.2.2.2.2.2.2.1
  have hnm := hL.2.2.2.2.2.2.2.2.2.1
  have hMt := hL.2.2.2.2.2.2.2.2.2.2.1
  have hna := hL.2.2.2.2.2.2.2.2.2.2.2.2.1
  have hfa := hL.2.2.2.2.2.2.2.2.2.2.2.2.2.1
  refine zX.introV (own := RX12) ⟨by decide, rfl⟩ (Nat.le_of_ble_eq_true rfl) ?_
  intro p e s m args below meth c Q ls hH C hl hth hret
  have hS : va_S (mA o ad) s.heap H [] := by rw [hH]; exact va_S.rf
  have hl : lv_has ls 2 [(0, .ref o)] := hl
  refine lv_aload_n C.1 C.2.1 dX12_codes_0 rfl (lv_at hl 0 rfl) ?_
  refine m_get C hM 18 (v := .int (σ.1 18)) (by decide) zw_26_0 rfl rfl dX12_codes_1 ?_
  refine z_re (y := zI ((nf : Nat) : Int)) hL.2.2.2.2.2.2.2.1 ?_
  refine lv_istore_n (lv' := [(1, zN nf), (0, .ref o)]) C.1 C.2.1 dX12_codes_4 rfl hl (by decide) rfl (fun ls hl => ?_)
  have loopD : ∀ (fu : Nat) (i : Nat) (H : Heap) (ls : Array Slot) (locs : List Loc), va_S (mA o ad) s.heap H locs → isM Z H o ad σ → (i + fu = nf + nm + 1 ∧ i ≤ nf + nm) → (fst1 (g12 F tb mt) (nf + nm - i) i = x12 F tb mt nf (nf + nm)) → lv_has ls 2 [(1, zN i), (0, .ref o)] → W p l e (rmk 7) s m args below meth c H locs 0 0 Q (F0 m 5 ls []) := by
    intro fu
    induction fu with
    | zero =>
      intro i H ls locs hS hM hi hx hl
      omega
    | succ fu ih_loopD =>
      intro i H ls locs hS hM hi hx hl
      refine lv_iload_n C.1 C.2.1 dX12_codes_5 rfl (lv_at hl 0 rfl) ?_
      refine lv_aload_n C.1 C.2.1 dX12_codes_6 rfl (lv_at hl 1 rfl) ?_
      refine m_get C hM 17 (v := .int (σ.1 17)) (by decide) zw_25_23 rfl rfl dX12_codes_7 ?_
      refine z_re (y := zI ((nf + nm : Nat) : Int)) hL.2.2.2.2.2.2.1 ?_
      refine y_icmp_ge (tgt := 44) C (a := ((i : Nat) : Int)) (b := ((nf + nm : Nat) : Int)) dX12_codes_10 (by decide) (by omega) (fun h10 => ?_) (fun h10 => ?_)
      · exact hret _ _ _ _ hS ⟨rfl, (by rw [← hx, show nf + nm - i = 0 by omega]; rfl), hM⟩ dX12_codes_44
      · have hu : nf + nm - i = (nf + nm - i - 1) + 1 := by omega
        have hmi := (hMt i (by omega)).2.1
        have hcr := hL.cdr (i := i) (by omega)
        refine lv_aload_n C.1 C.2.1 dX12_codes_13 rfl (lv_at hl 1 rfl) ?_
        refine lv_aload_n C.1 C.2.1 dX12_codes_14 rfl (lv_at hl 1 rfl) ?_
        refine lv_iload_n C.1 C.2.1 dX12_codes_15 rfl (lv_at hl 0 rfl) ?_
        refine z_readV C (As := [zN i]) (rest := [.ref o]) (c_X12_codeOf l Z hM hB hL hx9 i rfl (by omega)) hM.1 rfl ⟨⟨zw_30_22, zw_1_5, zw_30_19⟩, zd_X12_codeOf⟩ zw_30_20 zw_30_21 ⟨Nat.le_of_ble_eq_true rfl, Nat.le_of_ble_eq_true rfl⟩ ⟨rfl, rfl⟩ rfl hl.1 rfl (Nat.le_of_ble_eq_true rfl) dX12_codes_16 ⟨Nat.zero_le _, Nat.zero_le _⟩ hS (fun locs hS => ?_)
        refine y_if_lt (tgt := 26) C (a := cdR F tb (mt i + 6)) dX12_codes_19 (by decide) (by omega) (fun h19 => ?_) (fun h19 => ?_)
        · refine lv_iconst (v := zI 0) C.1 C.2.1 dX12_codes_26 (by decide) ?_
          refine lv_bipush (v := zI 12) C.1 C.2.1 dX12_codes_27 (by decide) ?_
          refine lv_aload_n C.1 C.2.1 dX12_codes_29 rfl (lv_at hl 1 rfl) ?_
          refine m_get C hM 20 (v := .ref (ad 20)) (by decide) zw_5_4 rfl rfl dX12_codes_30 ?_
          refine lv_iload_n C.1 C.2.1 dX12_codes_33 rfl (lv_at hl 0 rfl) ?_
          refine m_ald C hM 20 (by decide) i (t := ((i : Nat) : Int)) rfl (by show _ < 48; omega) dX12_codes_34 ?_
          refine z_re (y := zI ((mt i : Nat) : Int)) ((hMt i (by omega)).1) ?_
          refine z_callVX C (As := [zV (bI false), zN 12, zN (mt i)]) (rest := []) (c_X12_must l Z hM false (zI 12) (zI ((mt i : Nat) : Int))) hM.1 rfl ⟨⟨zw_26_16, zw_1_5, zw_26_13⟩, zd_X12_must⟩ zw_26_14 zw_26_15 ⟨Nat.le_of_ble_eq_true rfl, Nat.le_of_ble_eq_true rfl⟩ ⟨rfl, rfl⟩ rfl hl.1 rfl (Nat.le_of_ble_eq_true rfl) dX12_codes_35 ⟨Nat.zero_le _, Nat.zero_le _⟩ hS (fun _ h => h) (fun H9 locs9 q9 ce9 hp9 hS9 _ _ g1 g2 g3 => ?_) (fun v H locs hp hS _ _ => ?_)
          · exact hth _ _ _ _ _ _ _ hS9 (⟨mt i, (by rw [← hx, hu]; exact fst1_e (by unfold g12; rw [if_neg (fun z => absurd (cdR_ok.2 z) (by omega))])), ⟨_, hp9.2, rfl, rfl, (chg_sx (by decide) (chg_sx (by decide) chg.rf))⟩⟩) g1 g2 g3
          exact absurd hp.1 (by decide)
        · refine lv_iconst (v := zI 1) C.1 C.2.1 dX12_codes_22 (by decide) ?_
          refine lv_goto (tgt := 27) C.1 C.2.1 dX12_codes_23 (by decide) ?_
          refine lv_bipush (v := zI 12) C.1 C.2.1 dX12_codes_27 (by decide) ?_
          refine lv_aload_n C.1 C.2.1 dX12_codes_29 rfl (lv_at hl 1 rfl) ?_
          refine m_get C hM 20 (v := .ref (ad 20)) (by decide) zw_5_4 rfl rfl dX12_codes_30 ?_
          refine lv_iload_n C.1 C.2.1 dX12_codes_33 rfl (lv_at hl 0 rfl) ?_
          refine m_ald C hM 20 (by decide) i (t := ((i : Nat) : Int)) rfl (by show _ < 48; omega) dX12_codes_34 ?_
          refine z_re (y := zI ((mt i : Nat) : Int)) ((hMt i (by omega)).1) ?_
          refine z_callVX C (As := [zV (bI true), zN 12, zN (mt i)]) (rest := []) (c_X12_must l Z hM true (zI 12) (zI ((mt i : Nat) : Int))) hM.1 rfl ⟨⟨zw_26_16, zw_1_5, zw_26_13⟩, zd_X12_must⟩ zw_26_14 zw_26_15 ⟨Nat.le_of_ble_eq_true rfl, Nat.le_of_ble_eq_true rfl⟩ ⟨rfl, rfl⟩ rfl hl.1 rfl (Nat.le_of_ble_eq_true rfl) dX12_codes_35 ⟨Nat.zero_le _, Nat.zero_le _⟩ hS (fun _ h => h) (fun H9 locs9 q9 ce9 hp9 hS9 _ _ g1 g2 g3 => ?_) (fun v H locs hp hS _ _ => ?_)
          · exact absurd hp9.1 (by decide)
          obtain ⟨-, rfl, hM⟩ := hp
          refine lv_iinc (v := zI ((i + 1 : Nat) : Int)) (lv' := [(1, zN (i + 1)), (0, .ref o)]) C.1 C.2.1 dX12_codes_38 hl (k := 0) rfl (zI_add _ _) (by decide) rfl (fun ls hl => ?_)
          refine lv_goto (tgt := 5) C.1 C.2.1 dX12_codes_41 (by decide) ?_
          exact ih_loopD (i + 1) _ ls _ hS hM (by omega) (by rw [← hx, hu, fst1_s (by unfold g12; rw [if_pos (cdR_ok.1 h19)])]; rw [show nf + nm - (i + 1) = nf + nm - i - 1 by omega]) hl
  exact loopD (nm + 1) nf _ ls _ hS hM (by omega) rfl hl
