/-! the model: layout, its parts -/

theorem xLet_0 (F : Nat → Nat) (n t q : Nat) : xLet F n t 0 q = .ok q := rfl
theorem sb_let {v : Nat} (hv : v < 256) (h1 : 33 ≤ sb v) (h2 : sb v ≤ 126) : 33 ≤ v ∧ v ≤ 126 := by unfold sb at *; split at * <;> omega
theorem upd_ne {f : Nat → Int32} {k j : Nat} {x : Int32} (h : j ≠ k) : upd f k x j = f j := pk_un h

theorem xLet_s {F : Nat → Nat} {n t c q : Nat} (h : q + 1 ≤ n) (h2 : 33 ≤ F q ∧ F q ≤ 126) : xLet F n t (c + 1) q = xLet F n t c (q + 1) := by
  show (if q + 1 ≤ n then (if 33 ≤ F q ∧ F q ≤ 126 then xLet F n t c (q + 1) else .error (4, t)) else .error (2, n)) = _
  rw [if_pos h, if_pos h2]
theorem xLet_2 {F : Nat → Nat} {n t c q : Nat} (h : ¬ q + 1 ≤ n) : xLet F n t (c + 1) q = .error (2, n) := by
  show (if q + 1 ≤ n then (if 33 ≤ F q ∧ F q ≤ 126 then xLet F n t c (q + 1) else .error (4, t)) else .error (2, n)) = _
  rw [if_neg h]
theorem xLet_4 {F : Nat → Nat} {n t c q : Nat} (h : q + 1 ≤ n) (h2 : ¬ (33 ≤ F q ∧ F q ≤ 126)) : xLet F n t (c + 1) q = .error (4, t) := by
  show (if q + 1 ≤ n then (if 33 ≤ F q ∧ F q ≤ 126 then xLet F n t c (q + 1) else .error (4, t)) else .error (2, n)) = _
  rw [if_pos h, if_neg h2]

set_option maxHeartbeats 4000000 in
set_option maxRecDepth 20000 in
theorem c_X12_nameEntry (l : Launch) (Z : zT) {H : Heap} {o : Nat} {ad : Nat → Nat} {σ : mS} (hM : isM Z H o ad σ) {F : Nat → Nat} {n : Nat} (hB : mSrc σ F n) {k t : Nat} (hk : k < 502) (h9 : σ.1 9 = zI ((t + 1 : Nat) : Int)) (h8 : σ.1 8 = zI (n : Int)) (ht : t + 1 ≤ n) : zX l Z yX12_nameEntry cX12_nameEntry 6 none (rmk 4) [.ref o, zN k, zN t] H (mA o ad) 0 0 (fun v H' => v = none ∧ ∃ (σ' : mS) (q' : Nat), xName F n t = .ok q' ∧ isM Z H' o ad σ' ∧ σ'.1 9 = zI (q' : Int) ∧ chg [9] [13, 14] σ σ' ∧ σ'.2.1 13 = upd (σ.2.1 13) k (zI ((t + 3 : Nat) : Int)) ∧ σ'.2.1 14 = upd (σ.2.1 14) k (zI (U2 F (t + 1) : Int)) ∧ q' = t + 3 + U2 F (t + 1) ∧ q' ≤ n ∧ 1 ≤ U2 F (t + 1) ∧ U2 F (t + 1) ≤ 100 ∧ ∀ j, j < U2 F (t + 1) → 33 ≤ F (t + 3 + j) ∧ F (t + 3 + j) ≤ 126) (fun H' => ∃ r w : Nat, xName F n t = .error (r, w) ∧ mBrk Z o ad LX LF σ r w H') := by
  have hB0 := hB
  have hn := hB.2.2.2
  refine zX.introV (own := RX12) ⟨by decide, rfl⟩ (Nat.le_of_ble_eq_true rfl) ?_
  intro p e s m args below meth c Q ls hH C hl hth hret
  have hS : va_S (mA o ad) s.heap H [] := by rw [hH]; exact va_S.rf
  have hl : lv_has ls 6 [(0, .ref o), (1, zN k), (2, zN t)] := hl
  refine lv_aload_n C.1 C.2.1 dX12_nameEntry_0 rfl (lv_at hl 0 rfl) ?_
  refine lv_aload_n C.1 C.2.1 dX12_nameEntry_1 rfl (lv_at hl 0 rfl) ?_
  refine lv_ldc2 (v := zL 2) C.1 C.2.1 C.2.2.2.1 (C.2.2.2.2.1 _ zw_26_8) dX12_nameEntry_2 ?_
  refine z_callVX C (As := [.long (zL 2)]) (rest := [.ref o]) (c_X12_over l Z (n := n) (q := t + 1) (b := 2) hM (h9) (h8) (by omega) (by omega) (by omega)) hM.1 rfl ⟨⟨zw_27_7, zw_1_5, zw_27_4⟩, zd_X12_over⟩ zw_27_5 zw_27_6 ⟨Nat.le_of_ble_eq_true rfl, Nat.le_of_ble_eq_true rfl⟩ ⟨rfl, rfl⟩ rfl hl.1 rfl (Nat.le_of_ble_eq_true rfl) dX12_nameEntry_5 ⟨Nat.zero_le _, Nat.zero_le _⟩ hS (fun _ h => h) (fun H9 locs9 q9 ce9 hp9 hS9 _ _ g1 g2 g3 => ?_) (fun v H locs hp hS _ _ => ?_)
  · exact hth _ _ _ _ _ _ _ hS9 (⟨2, n, (by unfold xName; rw [if_neg (by omega)]), ⟨_, hp9.2, rfl, rfl, (chg_sx (by decide) (chg_sx (by decide) chg.rf))⟩⟩) g1 g2 g3
  obtain ⟨ho5, rfl, hM⟩ := hp
  refine z_readV C (As := [zN (t + 1)]) (rest := []) (c_X12_two l Z hM hB (t + 1) rfl (by omega)) hM.1 rfl ⟨⟨zw_27_11, zw_1_5, zw_27_8⟩, zd_X12_two⟩ zw_27_9 zw_27_10 ⟨Nat.le_of_ble_eq_true rfl, Nat.le_of_ble_eq_true rfl⟩ ⟨rfl, rfl⟩ rfl hl.1 rfl (Nat.le_of_ble_eq_true rfl) dX12_nameEntry_8 ⟨Nat.zero_le _, Nat.zero_le _⟩ hS (fun locs hS => ?_)
  have := U2_lt hB.1 (t + 1)
  refine lv_istore_n (lv' := [(3, zN (U2 F (t + 1))), (0, .ref o), (1, zN k), (2, zN t)]) C.1 C.2.1 dX12_nameEntry_11 rfl hl (by decide) rfl (fun ls hl => ?_)
  refine lv_aload_n C.1 C.2.1 dX12_nameEntry_12 rfl (lv_at hl 1 rfl) ?_
  refine lv_iload_n C.1 C.2.1 dX12_nameEntry_13 rfl (lv_at hl 0 rfl) ?_
  refine lv_iconst (v := zI 1) C.1 C.2.1 dX12_nameEntry_14 (by decide) ?_
  refine y_icmp_lt (tgt := 28) C (a := ((U2 F (t + 1) : Nat) : Int)) (b := 1) dX12_nameEntry_15 (by decide) (by omega) (fun h15 => ?_) (fun h15 => ?_)
  · refine lv_iconst (v := zI 0) C.1 C.2.1 dX12_nameEntry_28 (by decide) ?_
    refine lv_iconst (v := zI 4) C.1 C.2.1 dX12_nameEntry_29 (by decide) ?_
    refine lv_iload_n C.1 C.2.1 dX12_nameEntry_30 rfl (lv_at hl 3 rfl) ?_
    refine z_callVX C (As := [zV (bI false), zN 4, zN t]) (rest := []) (c_X12_must l Z hM false (zI 4) (zI ((t : Nat) : Int))) hM.1 rfl ⟨⟨zw_26_16, zw_1_5, zw_26_13⟩, zd_X12_must⟩ zw_26_14 zw_26_15 ⟨Nat.le_of_ble_eq_true rfl, Nat.le_of_ble_eq_true rfl⟩ ⟨rfl, rfl⟩ rfl hl.1 rfl (Nat.le_of_ble_eq_true rfl) dX12_nameEntry_31 ⟨Nat.zero_le _, Nat.zero_le _⟩ hS (fun _ h => h) (fun H9 locs9 q9 ce9 hp9 hS9 _ _ g1 g2 g3 => ?_) (fun v H locs hp hS _ _ => ?_)
    · exact hth _ _ _ _ _ _ _ hS9 (⟨4, t, (by unfold xName; rw [if_pos (by omega), if_neg (by omega)]), ⟨_, hp9.2, rfl, rfl, (chg_sx (by decide) (chg_sx (by decide) (chg_sx (by decide) chg.rf)))⟩⟩) g1 g2 g3
    exact absurd hp.1 (by decide)
  · refine lv_iload_n C.1 C.2.1 dX12_nameEntry_18 rfl (lv_at hl 0 rfl) ?_
    refine lv_bipush (v := zI 100) C.1 C.2.1 dX12_nameEntry_19 (by decide) ?_
    refine y_icmp_gt (tgt := 28) C (a := ((U2 F (t + 1) : Nat) : Int)) (b := 100) dX12_nameEntry_21 (by decide) (by omega) (fun h21 => ?_) (fun h21 => ?_)
    · refine lv_iconst (v := zI 0) C.1 C.2.1 dX12_nameEntry_28 (by decide) ?_
      refine lv_iconst (v := zI 4) C.1 C.2.1 dX12_nameEntry_29 (by decide) ?_
      refine lv_iload_n C.1 C.2.1 dX12_nameEntry_30 rfl (lv_at hl 3 rfl) ?_
      refine z_callVX C (As := [zV (bI false), zN 4, zN t]) (rest := []) (c_X12_must l Z hM false (zI 4) (zI ((t : Nat) : Int))) hM.1 rfl ⟨⟨zw_26_16, zw_1_5, zw_26_13⟩, zd_X12_must⟩ zw_26_14 zw_26_15 ⟨Nat.le_of_ble_eq_true rfl, Nat.le_of_ble_eq_true rfl⟩ ⟨rfl, rfl⟩ rfl hl.1 rfl (Nat.le_of_ble_eq_true rfl) dX12_nameEntry_31 ⟨Nat.zero_le _, Nat.zero_le _⟩ hS (fun _ h => h) (fun H9 locs9 q9 ce9 hp9 hS9 _ _ g1 g2 g3 => ?_) (fun v H locs hp hS _ _ => ?_)
      · exact hth _ _ _ _ _ _ _ hS9 (⟨4, t, (by unfold xName; rw [if_pos (by omega), if_neg (by omega)]), ⟨_, hp9.2, rfl, rfl, (chg_sx (by decide) (chg_sx (by decide) (chg_sx (by decide) chg.rf)))⟩⟩) g1 g2 g3
      exact absurd hp.1 (by decide)
    · refine lv_iconst (v := zI 1) C.1 C.2.1 dX12_nameEntry_24 (by decide) ?_
      refine lv_goto (tgt := 29) C.1 C.2.1 dX12_nameEntry_25 (by decide) ?_
      refine lv_iconst (v := zI 4) C.1 C.2.1 dX12_nameEntry_29 (by decide) ?_
      refine lv_iload_n C.1 C.2.1 dX12_nameEntry_30 rfl (lv_at hl 3 rfl) ?_
      refine z_callVX C (As := [zV (bI true), zN 4, zN t]) (rest := []) (c_X12_must l Z hM true (zI 4) (zI ((t : Nat) : Int))) hM.1 rfl ⟨⟨zw_26_16, zw_1_5, zw_26_13⟩, zd_X12_must⟩ zw_26_14 zw_26_15 ⟨Nat.le_of_ble_eq_true rfl, Nat.le_of_ble_eq_true rfl⟩ ⟨rfl, rfl⟩ rfl hl.1 rfl (Nat.le_of_ble_eq_true rfl) dX12_nameEntry_31 ⟨Nat.zero_le _, Nat.zero_le _⟩ hS (fun _ h => h) (fun H9 locs9 q9 ce9 hp9 hS9 _ _ g1 g2 g3 => ?_) (fun v H locs hp hS _ _ => ?_)
      · exact absurd hp9.1 (by decide)
      obtain ⟨-, rfl, hM⟩ := hp
      have hlo : 1 ≤ U2 F (t + 1) ∧ U2 F (t + 1) ≤ 100 := by omega
      refine lv_aload_n C.1 C.2.1 dX12_nameEntry_34 rfl (lv_at hl 1 rfl) ?_
      refine m_get C hM 13 (v := .ref (ad 13)) (by decide) zw_5_0 rfl rfl dX12_nameEntry_35 ?_
      refine lv_iload_n C.1 C.2.1 dX12_nameEntry_38 rfl (lv_at hl 2 rfl) ?_
      refine lv_aload_n C.1 C.2.1 dX12_nameEntry_39 rfl (lv_at hl 1 rfl) ?_
      refine m_get C hM 9 (v := .int ((sx σ 9 (zI ((t + 1 + 2 : Nat) : Int))).1 9)) (by decide) zw_26_7 rfl rfl dX12_nameEntry_40 ?_
      refine z_re (y := zI ((t + 1 + 2 : Nat) : Int)) rfl ?_
      refine m_ast C hM 13 (by decide) k (t := ((k : Nat) : Int)) rfl (by show _ < 502; omega) hS dX12_nameEntry_43 (fun H locs hM hS => ?_)
      refine lv_aload_n C.1 C.2.1 dX12_nameEntry_44 rfl (lv_at hl 1 rfl) ?_
      refine m_get C hM 14 (v := .ref (ad 14)) (by decide) zw_5_1 rfl rfl dX12_nameEntry_45 ?_
      refine lv_iload_n C.1 C.2.1 dX12_nameEntry_48 rfl (lv_at hl 2 rfl) ?_
      refine lv_iload_n C.1 C.2.1 dX12_nameEntry_49 rfl (lv_at hl 0 rfl) ?_
      refine m_ast C hM 14 (by decide) k (t := ((k : Nat) : Int)) rfl (by show _ < 502; omega) hS dX12_nameEntry_50 (fun H locs hM hS => ?_)
      refine lv_iconst (v := zI 0) C.1 C.2.1 dX12_nameEntry_51 (by decide) ?_
      refine lv_istore (lv' := [(4, zN 0), (3, zN (U2 F (t + 1))), (0, .ref o), (1, zN k), (2, zN t)]) C.1 C.2.1 dX12_nameEntry_52 hl (by decide) rfl (fun ls hl => ?_)
      have loop : ∀ (fu : Nat) (i : Nat) (σ1 : mS) (H : Heap) (ls : Array Slot) (locs : List Loc), va_S (mA o ad) s.heap H locs → isM Z H o ad σ1 → (i + fu = U2 F (t + 1) + 1 ∧ i ≤ U2 F (t + 1)) → (σ1.1 9 = zI ((t + 3 + i : Nat) : Int)) → (chg [9] [13, 14] σ σ1) → (σ1.2.1 13 = upd (σ.2.1 13) k (zI ((t + 3 : Nat) : Int))) → (σ1.2.1 14 = upd (σ.2.1 14) k (zI (U2 F (t + 1) : Int))) → (xLet F n t (U2 F (t + 1) - i) (t + 3 + i) = xName F n t) → (t + 3 + i ≤ n) → (∀ j, j < i → 33 ≤ F (t + 3 + j) ∧ F (t + 3 + j) ≤ 126) → lv_has ls 6 [(4, zN i), (3, zN (U2 F (t + 1))), (0, .ref o), (1, zN k), (2, zN t)] → W p l e (rmk 4) s m args below meth c H locs 0 0 Q (F0 m 54 ls []) := by
        intro fu
        induction fu with
        | zero =>
          intro i σ1 H ls locs hS hM hi h9 hc h13 h14 hx hin hlet hl
          omega
        | succ fu ih =>
          intro i σ1 H ls locs hS hM hi h9 hc h13 h14 hx hin hlet hl
          have hB := hB0.chg hc (by decide) (by decide)
          have h8 : σ1.1 8 = zI (n : Int) := (hc.1 8 (by decide)).trans h8
          have hF := hB.1 (t + 3 + i)
          have hsb := sb_rg hF
          refine lv_iload C.1 C.2.1 dX12_nameEntry_54 (lv_at hl 0 rfl) ?_
          refine lv_iload_n C.1 C.2.1 dX12_nameEntry_56 rfl (lv_at hl 1 rfl) ?_
          refine y_icmp_ge (tgt := 108) C (a := ((i : Nat) : Int)) (b := ((U2 F (t + 1) : Nat) : Int)) dX12_nameEntry_57 (by decide) (by omega) (fun h57 => ?_) (fun h57 => ?_)
          · exact hret _ _ _ _ hS ⟨rfl, σ1, t + 3 + i, (by rw [← hx, show U2 F (t + 1) - i = 0 by omega]; rfl), hM, h9, hc, h13, h14, by omega, hin, by omega, by omega, fun j h => hlet j (by omega)⟩ dX12_nameEntry_108
          · have hu : U2 F (t + 1) - i = (U2 F (t + 1) - i - 1) + 1 := by omega
            have hu2 : U2 F (t + 1) - (i + 1) = U2 F (t + 1) - i - 1 := by omega
            refine lv_aload_n C.1 C.2.1 dX12_nameEntry_60 rfl (lv_at hl 2 rfl) ?_
            refine lv_lconst (v := zL 1) C.1 C.2.1 dX12_nameEntry_61 (by decide) ?_
            refine z_callVX C (As := [.long (zL 1)]) (rest := []) (c_X12_over l Z (n := n) (q := t + 3 + i) (b := 1) hM (h9) (h8) (by omega) (by omega) (by omega)) hM.1 rfl ⟨⟨zw_27_7, zw_1_5, zw_27_4⟩, zd_X12_over⟩ zw_27_5 zw_27_6 ⟨Nat.le_of_ble_eq_true rfl, Nat.le_of_ble_eq_true rfl⟩ ⟨rfl, rfl⟩ rfl hl.1 rfl (Nat.le_of_ble_eq_true rfl) dX12_nameEntry_62 ⟨Nat.zero_le _, Nat.zero_le _⟩ hS (fun _ h => h) (fun H9 locs9 q9 ce9 hp9 hS9 _ _ g1 g2 g3 => ?_) (fun v H locs hp hS _ _ => ?_)
            · exact hth _ _ _ _ _ _ _ hS9 (⟨2, n, (by rw [← hx, hu]; exact xLet_2 (q := t + 3 + i) hp9.1), ⟨_, hp9.2, rfl, rfl, (chg_sx (by decide) (chg_sx (by decide) (hc.mono (by decide) (by decide))))⟩⟩) g1 g2 g3
            obtain ⟨ho62, rfl, hM⟩ := hp
            refine lv_istore (lv' := [(5, zN (t + 3 + i)), (4, zN i), (3, zN (U2 F (t + 1))), (0, .ref o), (1, zN k), (2, zN t)]) C.1 C.2.1 dX12_nameEntry_65 hl (by decide) rfl (fun ls hl => ?_)
            refine lv_aload_n C.1 C.2.1 dX12_nameEntry_67 rfl (lv_at hl 3 rfl) ?_
            refine lv_aload_n C.1 C.2.1 dX12_nameEntry_68 rfl (lv_at hl 3 rfl) ?_
            refine m_get C hM 7 (v := if (sx σ1 9 (zI ((t + 3 + i + 1 : Nat) : Int))).1 7 = 0 then .null else .ref (ad 0)) (by decide) zw_25_14 rfl rfl dX12_nameEntry_69 ?_
            refine z_reV (m7 hB.2.2.1) ?_
            refine lv_iload C.1 C.2.1 dX12_nameEntry_72 (lv_at hl 0 rfl) ?_
            refine m_bld C hM (t + 3 + i) (t := ((t + 3 + i : Nat) : Int)) rfl (by omega) dX12_nameEntry_74 ?_
            refine z_re (y := zI (sb (F (t + 3 + i)))) (hB.2.1 (t + 3 + i) (by omega)) ?_
            refine lv_bipush (v := zI 33) C.1 C.2.1 dX12_nameEntry_75 (by decide) ?_
            refine y_icmp_lt (tgt := 96) C (a := sb (F (t + 3 + i))) (b := 33) dX12_nameEntry_77 (by decide) (by omega) (fun h77 => ?_) (fun h77 => ?_)
            · refine lv_iconst (v := zI 0) C.1 C.2.1 dX12_nameEntry_96 (by decide) ?_
              refine lv_iconst (v := zI 4) C.1 C.2.1 dX12_nameEntry_97 (by decide) ?_
              refine lv_iload_n C.1 C.2.1 dX12_nameEntry_98 rfl (lv_at hl 5 rfl) ?_
              refine z_callVX C (As := [zV (bI false), zN 4, zN t]) (rest := []) (c_X12_must l Z hM false (zI 4) (zI ((t : Nat) : Int))) hM.1 rfl ⟨⟨zw_26_16, zw_1_5, zw_26_13⟩, zd_X12_must⟩ zw_26_14 zw_26_15 ⟨Nat.le_of_ble_eq_true rfl, Nat.le_of_ble_eq_true rfl⟩ ⟨rfl, rfl⟩ rfl hl.1 rfl (Nat.le_of_ble_eq_true rfl) dX12_nameEntry_99 ⟨Nat.zero_le _, Nat.zero_le _⟩ hS (fun _ h => h) (fun H9 locs9 q9 ce9 hp9 hS9 _ _ g1 g2 g3 => ?_) (fun v H locs hp hS _ _ => ?_)
              · exact hth _ _ _ _ _ _ _ hS9 (⟨4, t, (by rw [← hx, hu]; exact xLet_4 (by omega) (by unfold sb at *; split at * <;> omega)), ⟨_, hp9.2, rfl, rfl, (chg_sx (by decide) (chg_sx (by decide) (chg_sx (by decide) (hc.mono (by decide) (by decide)))))⟩⟩) g1 g2 g3
              exact absurd hp.1 (by decide)
            · refine lv_aload_n C.1 C.2.1 dX12_nameEntry_80 rfl (lv_at hl 3 rfl) ?_
              refine m_get C hM 7 (v := if (sx σ1 9 (zI ((t + 3 + i + 1 : Nat) : Int))).1 7 = 0 then .null else .ref (ad 0)) (by decide) zw_25_14 rfl rfl dX12_nameEntry_81 ?_
              refine z_reV (m7 hB.2.2.1) ?_
              refine lv_iload C.1 C.2.1 dX12_nameEntry_84 (lv_at hl 0 rfl) ?_
              refine m_bld C hM (t + 3 + i) (t := ((t + 3 + i : Nat) : Int)) rfl (by omega) dX12_nameEntry_86 ?_
              refine z_re (y := zI (sb (F (t + 3 + i)))) (hB.2.1 (t + 3 + i) (by omega)) ?_
              refine lv_bipush (v := zI 126) C.1 C.2.1 dX12_nameEntry_87 (by decide) ?_
              refine y_icmp_gt (tgt := 96) C (a := sb (F (t + 3 + i))) (b := 126) dX12_nameEntry_89 (by decide) (by omega) (fun h89 => ?_) (fun h89 => ?_)
              · refine lv_iconst (v := zI 0) C.1 C.2.1 dX12_nameEntry_96 (by decide) ?_
                refine lv_iconst (v := zI 4) C.1 C.2.1 dX12_nameEntry_97 (by decide) ?_
                refine lv_iload_n C.1 C.2.1 dX12_nameEntry_98 rfl (lv_at hl 5 rfl) ?_
                refine z_callVX C (As := [zV (bI false), zN 4, zN t]) (rest := []) (c_X12_must l Z hM false (zI 4) (zI ((t : Nat) : Int))) hM.1 rfl ⟨⟨zw_26_16, zw_1_5, zw_26_13⟩, zd_X12_must⟩ zw_26_14 zw_26_15 ⟨Nat.le_of_ble_eq_true rfl, Nat.le_of_ble_eq_true rfl⟩ ⟨rfl, rfl⟩ rfl hl.1 rfl (Nat.le_of_ble_eq_true rfl) dX12_nameEntry_99 ⟨Nat.zero_le _, Nat.zero_le _⟩ hS (fun _ h => h) (fun H9 locs9 q9 ce9 hp9 hS9 _ _ g1 g2 g3 => ?_) (fun v H locs hp hS _ _ => ?_)
                · exact hth _ _ _ _ _ _ _ hS9 (⟨4, t, (by rw [← hx, hu]; exact xLet_4 (by omega) (by unfold sb at *; split at * <;> omega)), ⟨_, hp9.2, rfl, rfl, (chg_sx (by decide) (chg_sx (by decide) (chg_sx (by decide) (hc.mono (by decide) (by decide)))))⟩⟩) g1 g2 g3
                exact absurd hp.1 (by decide)
              · refine lv_iconst (v := zI 1) C.1 C.2.1 dX12_nameEntry_92 (by decide) ?_
                refine lv_goto (tgt := 97) C.1 C.2.1 dX12_nameEntry_93 (by decide) ?_
                refine lv_iconst (v := zI 4) C.1 C.2.1 dX12_nameEntry_97 (by decide) ?_
                refine lv_iload_n C.1 C.2.1 dX12_nameEntry_98 rfl (lv_at hl 5 rfl) ?_
                refine z_callVX C (As := [zV (bI true), zN 4, zN t]) (rest := []) (c_X12_must l Z hM true (zI 4) (zI ((t : Nat) : Int))) hM.1 rfl ⟨⟨zw_26_16, zw_1_5, zw_26_13⟩, zd_X12_must⟩ zw_26_14 zw_26_15 ⟨Nat.le_of_ble_eq_true rfl, Nat.le_of_ble_eq_true rfl⟩ ⟨rfl, rfl⟩ rfl hl.1 rfl (Nat.le_of_ble_eq_true rfl) dX12_nameEntry_99 ⟨Nat.zero_le _, Nat.zero_le _⟩ hS (fun _ h => h) (fun H9 locs9 q9 ce9 hp9 hS9 _ _ g1 g2 g3 => ?_) (fun v H locs hp hS _ _ => ?_)
                · exact absurd hp9.1 (by decide)
                obtain ⟨-, rfl, hM⟩ := hp
                refine lv_iinc (v := zI ((i + 1 : Nat) : Int)) (lv' := [(4, zN (i + 1)), (5, zN (t + 3 + i)), (3, zN (U2 F (t + 1))), (0, .ref o), (1, zN k), (2, zN t)]) C.1 C.2.1 dX12_nameEntry_102 hl (k := 1) rfl (zI_add _ _) (by decide) rfl (fun ls hl => ?_)
                refine lv_goto (tgt := 54) C.1 C.2.1 dX12_nameEntry_105 (by decide) ?_
                exact ih (i + 1) _ _ ls locs hS hM (by omega) rfl (chg_sx (by decide) hc) h13 h14 (by rw [← hx, hu]; exact (xLet_s (q := t + 3 + i) ho62 (sb_let hF h77 h89)).symm) (by omega) (lt_s hlet (sb_let hF h77 h89)) (lv_sub hl [0, 2, 3, 4, 5] rfl)
      exact loop (U2 F (t + 1) + 1) 0 _ _ ls locs hS hM (by omega) rfl (chg_sf (by decide) (chg_sf (by decide) (chg_sx (by decide) chg.rf))) rfl rfl (by unfold xName; rw [if_pos (by omega), if_pos (by omega)]; rfl) (by omega) (fun j h => absurd h (by omega)) hl
