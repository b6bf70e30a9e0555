/-! the component: what letters say, the pool's entries -/
theorem cSrc.sf {τ : mS} {F : Nat → Nat} {n k : Nat} {f : Nat → Int32} (h : cSrc τ F n) (hk : 2 ≠ k) : cSrc (sf τ k f) F n := ⟨h.1, fun j hj => by show va_up τ.2.1 k f 2 j = _; rw [va_up_ne _ _ hk]; exact h.2.1 j hj, h.2.2.1, h.2.2.2⟩
theorem cSrc.sx {τ : mS} {F : Nat → Nat} {n k : Nat} {v : Int32} (h : cSrc τ F n) (hk : 0 ≠ k) : cSrc (sx τ k v) F n := ⟨h.1, h.2.1, by show upd τ.1 k v 0 = _; rw [upd_ne hk]; exact h.2.2.1, h.2.2.2⟩
theorem cPl.sf {τ : mS} {F tb : Nat → Nat} {pc k : Nat} {f : Nat → Int32} (h : cPl τ F tb pc) (hk : 4 ≠ k ∧ 5 ≠ k ∧ 6 ≠ k) : cPl (sf τ k f) F tb pc := ⟨h.1, h.2.1, fun j hj => by
  show va_up τ.2.1 k f 4 j = _ ∧ va_up τ.2.1 k f 5 j = _ ∧ va_up τ.2.1 k f 6 j = _
  rw [va_up_ne _ _ hk.1, va_up_ne _ _ hk.2.1, va_up_ne _ _ hk.2.2]; exact h.2.2 j hj⟩
theorem cPl.sx {τ : mS} {F tb : Nat → Nat} {pc k : Nat} {v : Int32} (h : cPl τ F tb pc) (hk : 1 ≠ k) : cPl (sx τ k v) F tb pc := ⟨by show upd τ.1 k v 1 = _; rw [upd_ne hk]; exact h.1, h.2.1, h.2.2⟩
theorem sf_at (τ : mS) (k : Nat) (f : Nat → Int32) : (sf τ k f).2.1 k = f := va_up_self τ.2.1 k f
theorem sf_no (τ : mS) {k j : Nat} (f : Nat → Int32) (h : j ≠ k) : (sf τ k f).2.1 j = τ.2.1 j := va_up_ne _ _ h
def rsV (F : Nat → Nat) (fp ln : Nat) : Nat := if nmC F fp ln 0 = 40 ∧ nmC F fp ln (ppI F fp ln).1 = 41 then (if (ppI F fp ln).1 + 2 = ln ∧ nmC F fp ln ((ppI F fp ln).1 + 1) = 86 then 7 else kdW F fp ln ((ppI F fp ln).1 + 1)) else 0
def paV (F : Nat → Nat) (fp ln : Nat) : Nat := if nmC F fp ln 0 = 40 ∧ nmC F fp ln (ppI F fp ln).1 = 41 then (ppI F fp ln).2 else 0
/-- rows 8 and 9 at k are told, all else stays -/
def lmP (τ τ' : mS) (k r q : Nat) : Prop := chg [] [8, 9] τ τ' ∧ τ'.2.1 8 k = zI (r : Int) ∧ τ'.2.1 9 k = zI (q : Int) ∧ ∀ j, j ≠ k → τ'.2.1 8 j = τ.2.1 8 j ∧ τ'.2.1 9 j = τ.2.1 9 j
theorem lm0 {τ : mS} {k : Nat} (h8 : τ.2.1 8 k = zI 0) (h9 : τ.2.1 9 k = zI 0) {r q : Nat} (er : r = 0) (eq : q = 0) : lmP τ τ k r q := ⟨chg.rf, by rw [er]; exact h8, by rw [eq]; exact h9, fun _ _ => ⟨rfl, rfl⟩⟩
theorem lm1 {τ : mS} {k r q : Nat} : lmP τ (sf (sf τ 9 (upd (τ.2.1 9) k (zI (q : Int)))) 8 (upd ((sf τ 9 (upd (τ.2.1 9) k (zI (q : Int)))).2.1 8) k (zI (r : Int)))) k r q := by
  refine ⟨chg_sf (by decide) (chg_sf (by decide) chg.rf), ?_, ?_, fun j hj => ⟨?_, ?_⟩⟩
  · exact upd_2
  · exact upd_2
  · exact upd_ne hj
  · exact upd_ne hj

set_option maxHeartbeats 4000000 in
set_option maxRecDepth 20000 in
theorem c_X9_learnMethod (l : Launch) (Z : zT) {H : Heap} {ad : Nat → Nat} {τ : mS} {X : List (Nat × va_E)} (hM : isC Z H ad τ X) {F : Nat → Nat} {n : Nat} (hB : cSrc τ F n) {fp ln : Nat} (hfl : fp + ln ≤ n) (hln : 1 ≤ ln) (hz : nmC F fp ln 0 = 40) {k : Nat} (hk : k < 500) (h8 : τ.2.1 8 k = zI 0) (h9 : τ.2.1 9 k = zI 0) : zM l Z yX9_learnMethod cX9_learnMethod 7 none (rmk 4) [.ref (ad 3), zN k, zN (fp + 1), zN (fp + ln)] H (cA ad) 0 0 (fun v H' => v = none ∧ ∃ τ' : mS, isC Z H' ad τ' X ∧ lmP τ τ' k (rsV F fp ln) (paV F fp ln)) := by
  have hn := hB.2.2.2
  refine zM.introV (own := RX9) ⟨by decide, rfl⟩ (Nat.le_of_ble_eq_true rfl) ?_
  intro p e s m args below meth c Q ls hH C hnm hl hret
  have hS : va_S (cA ad) s.heap H [] := by rw [hH]; exact va_S.rf
  have hl : lv_has ls 7 [(0, .ref (ad 3)), (1, zN k), (2, zN (fp + 1)), (3, zN (fp + ln))] := hl
  refine lv_iload_n C.1 C.2.1 dX9_learnMethod_0 rfl (lv_at hl 2 rfl) ?_
  refine lv_istore (lv' := [(4, zN (fp + 1)), (0, .ref (ad 3)), (1, zN k), (2, zN (fp + 1)), (3, zN (fp + ln))]) C.1 C.2.1 dX9_learnMethod_1 hl (by decide) rfl (fun ls hl => ?_)
  refine lv_iconst (v := zI 0) C.1 C.2.1 dX9_learnMethod_3 (by decide) ?_
  refine lv_istore (lv' := [(5, zN 0), (4, zN (fp + 1)), (0, .ref (ad 3)), (1, zN k), (2, zN (fp + 1)), (3, zN (fp + ln))]) C.1 C.2.1 dX9_learnMethod_4 hl (by decide) rfl (fun ls hl => ?_)
  refine lv_aload_n C.1 C.2.1 dX9_learnMethod_6 rfl (lv_at hl 2 rfl) ?_
  refine z_get C (v := .ref (ad 1)) hM.pol rfl bi_wsX70 0 (by decide) zw_11_22 rfl rfl dX9_learnMethod_7 ?_
  refine lv_iload C.1 C.2.1 dX9_learnMethod_10 (lv_at hl 1 rfl) ?_
  refine lv_iload_n C.1 C.2.1 dX9_learnMethod_12 rfl (lv_at hl 5 rfl) ?_
  refine z_readS C (As := [.ref (ad 1), zN (fp + 1), zN (fp + ln)]) (rest := []) (c_X9_kindAt l Z hM hB (fp := fp) (ln := ln) (by omega) (1) (by omega) (by omega) (by omega)) ⟨⟨zw_12_5, zw_11_16, zw_12_3⟩, zd_X9_kindAt⟩ zw_12_4 ⟨Nat.le_of_ble_eq_true rfl, Nat.le_of_ble_eq_true rfl⟩ ⟨rfl, rfl⟩ rfl hl.1 rfl (Nat.le_of_ble_eq_true rfl) dX9_learnMethod_13 ⟨Nat.zero_le _, Nat.zero_le _⟩ hS (fun locs hS => ?_)
  have hk13 := kd_ty F fp ln 1
  refine lv_istore (lv' := [(6, zN (kd F fp ln 1)), (5, zN 0), (4, zN (fp + 1)), (0, .ref (ad 3)), (1, zN k), (2, zN (fp + 1)), (3, zN (fp + ln))]) C.1 C.2.1 dX9_learnMethod_16 hl (by decide) rfl (fun ls hl => ?_)
  have loop : ∀ (fu : Nat) (i : Nat) (q : Nat) (ls : Array Slot) (locs : List Loc), va_S (cA ad) s.heap H locs → (1 ≤ i ∧ i ≤ ln) → (ln < fu + i) → (q ≤ 2 * i) → (ppL F fp ln fu i q = ppI F fp ln) → lv_has ls 7 [(6, zN (kd F fp ln i)), (4, zN (fp + i)), (5, zN q), (0, .ref (ad 3)), (1, zN k), (2, zN (fp + 1)), (3, zN (fp + ln))] → W p l e (rmk 4) s m args below meth c H locs 0 0 Q (F0 m 18 ls []) := by
    intro fu
    induction fu with
    | zero =>
      intro i q ls locs hS hi hf hq he hl
      omega
    | succ fu ih_loop =>
      intro i q ls locs hS hi hf hq he hl
      have hki := kd_ty F fp ln i
      have hkn := kd_in (F := F) (fp := fp) (ln := ln) (i := i)
      have hkl := ltO_le (kd F fp ln i)
      have hn1 : i < ln → nmC F fp ln i = F (fp + i) := fun h => if_pos h
      have hn2 : ¬ i < ln → nmC F fp ln i = 0 := fun h => if_neg h
      have hn3 : i + 1 < ln → nmC F fp ln (i + 1) = F (fp + (i + 1)) := fun h => if_pos h
      refine lv_iload C.1 C.2.1 dX9_learnMethod_18 (lv_at hl 1 rfl) ?_
      refine lv_iload_n C.1 C.2.1 dX9_learnMethod_20 rfl (lv_at hl 6 rfl) ?_
      refine y_icmp_ge (tgt := 70) C (a := ((fp + i : Nat) : Int)) (b := ((fp + ln : Nat) : Int)) dX9_learnMethod_21 (by decide) (by omega) (fun h21 => ?_) (fun h21 => ?_)
      · have e0 : ppI F fp ln = (i, q) := by rw [← he]; unfold ppL; rw [if_neg (by rw [hki.1 (by omega)]; omega)]
        refine lv_iload C.1 C.2.1 dX9_learnMethod_70 (lv_at hl 1 rfl) ?_
        refine lv_iload_n C.1 C.2.1 dX9_learnMethod_72 rfl (lv_at hl 6 rfl) ?_
        refine y_icmp_ge (tgt := 90) C (a := ((fp + i : Nat) : Int)) (b := ((fp + ln : Nat) : Int)) dX9_learnMethod_73 (by decide) (by omega) (fun h73 => ?_) (fun h73 => ?_)
        · exact hret _ _ _ _ hS ⟨rfl, _, hM, lm0 h8 h9 (by unfold rsV; rw [if_neg (by rw [e0]; show ¬ (_ ∧ nmC F fp ln i = 41); omega)]) (by unfold paV; rw [if_neg (by rw [e0]; show ¬ (_ ∧ nmC F fp ln i = 41); omega)])⟩ dX9_learnMethod_90
        · refine lv_aload_n C.1 C.2.1 dX9_learnMethod_76 rfl (lv_at hl 3 rfl) ?_
          refine z_get C (v := .ref (ad 1)) hM.pol rfl bi_wsX70 0 (by decide) zw_11_22 rfl rfl dX9_learnMethod_77 ?_
          refine lv_iload C.1 C.2.1 dX9_learnMethod_80 (lv_at hl 1 rfl) ?_
          refine z_readV C (As := [zN (fp + i)]) (rest := []) (c_u1 l Z hM hB (fp + i) rfl (by omega)) hM.byt rfl ⟨⟨zw_9_12, zw_2_15, zw_12_6⟩, zd_X1_u1⟩ zw_9_10 zw_9_11 ⟨Nat.le_of_ble_eq_true rfl, Nat.le_of_ble_eq_true rfl⟩ ⟨rfl, rfl⟩ rfl hl.1 rfl (Nat.le_of_ble_eq_true rfl) dX9_learnMethod_82 ⟨Nat.zero_le _, Nat.zero_le _⟩ hS (fun locs hS => ?_)
          have := hB.1 (fp + i)
          refine lv_bipush (v := zI 41) C.1 C.2.1 dX9_learnMethod_85 (by decide) ?_
          refine y_icmp_eq (tgt := 91) C (a := ((F (fp + i) : Nat) : Int)) (b := 41) dX9_learnMethod_87 (by decide) (by omega) (fun h87 => ?_) (fun h87 => ?_)
          · refine lv_aload_n C.1 C.2.1 dX9_learnMethod_91 rfl (lv_at hl 3 rfl) ?_
            refine z_get C (v := .ref (ad 9)) hM.pol rfl bi_wsX70 6 (by decide) zw_12_13 rfl rfl dX9_learnMethod_92 ?_
            refine lv_iload_n C.1 C.2.1 dX9_learnMethod_95 rfl (lv_at hl 4 rfl) ?_
            refine lv_iload C.1 C.2.1 dX9_learnMethod_96 (lv_at hl 2 rfl) ?_
            refine z_callSN C (As := [.ref (ad 9), zN k, zN q]) (rest := []) (c_put l Z hM 9 (by decide) k rfl (by show _ < 500; omega) (zI ((q : Nat) : Int))) ⟨⟨zw_10_12, zw_1_2⟩, zd_X11_put⟩ (by decide) zw_10_11 ⟨Nat.le_of_ble_eq_true rfl, Nat.le_of_ble_eq_true rfl⟩ ⟨rfl, rfl⟩ rfl hl.1 rfl (Nat.le_of_ble_eq_true rfl) dX9_learnMethod_98 ⟨Nat.zero_le _, Nat.zero_le _⟩ hS (fun _ h => ⟨9, by decide, h⟩) (fun v H locs hp hS _ _ => ?_)
            obtain ⟨rfl, hM⟩ := hp
            have hB : cSrc (sf τ 9 (upd (τ.2.1 9) k (zI ((q : Nat) : Int)))) F n := hB.sf (by decide)
            refine lv_iload C.1 C.2.1 dX9_learnMethod_101 (lv_at hl 1 rfl) ?_
            refine lv_iconst (v := zI 2) C.1 C.2.1 dX9_learnMethod_103 (by decide) ?_
            refine y_iaddN C (a := fp + i) (b := 2) dX9_learnMethod_104 ?_
            refine lv_iload_n C.1 C.2.1 dX9_learnMethod_105 rfl (lv_at hl 6 rfl) ?_
            refine y_icmp_ne (tgt := 138) C (a := (((fp + i) + 2 : Nat) : Int)) (b := ((fp + ln : Nat) : Int)) dX9_learnMethod_106 (by decide) (by omega) (fun h106 => ?_) (fun h106 => ?_)
            · refine lv_aload_n C.1 C.2.1 dX9_learnMethod_138 rfl (lv_at hl 3 rfl) ?_
              refine z_get C (v := .ref (ad 8)) hM.pol rfl bi_wsX70 5 (by decide) zw_12_14 rfl rfl dX9_learnMethod_139 ?_
              refine lv_iload_n C.1 C.2.1 dX9_learnMethod_142 rfl (lv_at hl 4 rfl) ?_
              refine lv_aload_n C.1 C.2.1 dX9_learnMethod_143 rfl (lv_at hl 3 rfl) ?_
              refine z_get C (v := .ref (ad 1)) hM.pol rfl bi_wsX70 0 (by decide) zw_11_22 rfl rfl dX9_learnMethod_144 ?_
              refine lv_iload C.1 C.2.1 dX9_learnMethod_147 (lv_at hl 1 rfl) ?_
              refine lv_iconst (v := zI 1) C.1 C.2.1 dX9_learnMethod_149 (by decide) ?_
              refine y_iaddN C (a := fp + i) (b := 1) dX9_learnMethod_150 ?_
              refine lv_iload_n C.1 C.2.1 dX9_learnMethod_151 rfl (lv_at hl 6 rfl) ?_
              refine z_readS C (As := [.ref (ad 1), zN ((fp + i) + 1), zN (fp + ln)]) (rest := [zN k, .ref (ad 8)]) (c_X9_wholeFrom l Z hM hB (fp := fp) (ln := ln) (by omega) (i + 1) (by omega) (by omega) (by omega)) ⟨⟨zw_12_2, zw_11_16, zw_12_0⟩, zd_X9_wholeFrom⟩ zw_12_1 ⟨Nat.le_of_ble_eq_true rfl, Nat.le_of_ble_eq_true rfl⟩ ⟨rfl, rfl⟩ rfl hl.1 rfl (Nat.le_of_ble_eq_true rfl) dX9_learnMethod_152 ⟨Nat.zero_le _, Nat.zero_le _⟩ hS (fun locs hS => ?_)
              refine z_callSN C (As := [.ref (ad 8), zN k, zN (kdW F fp ln (i + 1))]) (rest := []) (c_put l Z hM 8 (by decide) k rfl (by show _ < 500; omega) (zI ((kdW F fp ln (i + 1) : Nat) : Int))) ⟨⟨zw_10_12, zw_1_2⟩, zd_X11_put⟩ (by decide) zw_10_11 ⟨Nat.le_of_ble_eq_true rfl, Nat.le_of_ble_eq_true rfl⟩ ⟨rfl, rfl⟩ rfl hl.1 rfl (Nat.le_of_ble_eq_true rfl) dX9_learnMethod_155 ⟨Nat.zero_le _, Nat.zero_le _⟩ hS (fun _ h => ⟨8, by decide, h⟩) (fun v H locs hp hS _ _ => ?_)
              obtain ⟨rfl, hM⟩ := hp
              have hB : cSrc (sf (sf τ 9 (upd (τ.2.1 9) k (zI ((q : Nat) : Int)))) 8 (upd ((sf τ 9 (upd (τ.2.1 9) k (zI ((q : Nat) : Int)))).2.1 8) k (zI ((kdW F fp ln (i + 1) : Nat) : Int)))) F n := hB.sf (by decide)
              exact hret _ _ _ _ hS ⟨rfl, _, hM, (by rw [show rsV F fp ln = kdW F fp ln (i + 1) from (by unfold rsV; rw [if_pos ⟨hz, by rw [e0]; show nmC F fp ln i = 41; omega⟩, if_neg (by rw [e0]; show ¬ (i + 2 = ln ∧ nmC F fp ln (i + 1) = 86); omega), e0]), show paV F fp ln = q from (by unfold paV; rw [if_pos ⟨hz, by rw [e0]; show nmC F fp ln i = 41; omega⟩, e0])]; exact lm1)⟩ dX9_learnMethod_158
            · refine lv_aload_n C.1 C.2.1 dX9_learnMethod_109 rfl (lv_at hl 3 rfl) ?_
              refine z_get C (v := .ref (ad 1)) hM.pol rfl bi_wsX70 0 (by decide) zw_11_22 rfl rfl dX9_learnMethod_110 ?_
              refine lv_iload C.1 C.2.1 dX9_learnMethod_113 (lv_at hl 1 rfl) ?_
              refine lv_iconst (v := zI 1) C.1 C.2.1 dX9_learnMethod_115 (by decide) ?_
              refine y_iaddN C (a := fp + i) (b := 1) dX9_learnMethod_116 ?_
              refine z_readV C (As := [zN ((fp + i) + 1)]) (rest := []) (c_u1 l Z hM hB (fp + (i + 1)) (by omega) (by omega)) hM.byt rfl ⟨⟨zw_9_12, zw_2_15, zw_12_6⟩, zd_X1_u1⟩ zw_9_10 zw_9_11 ⟨Nat.le_of_ble_eq_true rfl, Nat.le_of_ble_eq_true rfl⟩ ⟨rfl, rfl⟩ rfl hl.1 rfl (Nat.le_of_ble_eq_true rfl) dX9_learnMethod_117 ⟨Nat.zero_le _, Nat.zero_le _⟩ hS (fun locs hS => ?_)
              have := hB.1 (fp + (i + 1))
              refine lv_bipush (v := zI 86) C.1 C.2.1 dX9_learnMethod_120 (by decide) ?_
              refine y_icmp_ne (tgt := 138) C (a := ((F (fp + (i + 1)) : Nat) : Int)) (b := 86) dX9_learnMethod_122 (by decide) (by omega) (fun h122 => ?_) (fun h122 => ?_)
              · refine lv_aload_n C.1 C.2.1 dX9_learnMethod_138 rfl (lv_at hl 3 rfl) ?_
                refine z_get C (v := .ref (ad 8)) hM.pol rfl bi_wsX70 5 (by decide) zw_12_14 rfl rfl dX9_learnMethod_139 ?_
                refine lv_iload_n C.1 C.2.1 dX9_learnMethod_142 rfl (lv_at hl 4 rfl) ?_
                refine lv_aload_n C.1 C.2.1 dX9_learnMethod_143 rfl (lv_at hl 3 rfl) ?_
                refine z_get C (v := .ref (ad 1)) hM.pol rfl bi_wsX70 0 (by decide) zw_11_22 rfl rfl dX9_learnMethod_144 ?_
                refine lv_iload C.1 C.2.1 dX9_learnMethod_147 (lv_at hl 1 rfl) ?_
                refine lv_iconst (v := zI 1) C.1 C.2.1 dX9_learnMethod_149 (by decide) ?_
                refine y_iaddN C (a := fp + i) (b := 1) dX9_learnMethod_150 ?_
                refine lv_iload_n C.1 C.2.1 dX9_learnMethod_151 rfl (lv_at hl 6 rfl) ?_
                refine z_readS C (As := [.ref (ad 1), zN ((fp + i) + 1), zN (fp + ln)]) (rest := [zN k, .ref (ad 8)]) (c_X9_wholeFrom l Z hM hB (fp := fp) (ln := ln) (by omega) (i + 1) (by omega) (by omega) (by omega)) ⟨⟨zw_12_2, zw_11_16, zw_12_0⟩, zd_X9_wholeFrom⟩ zw_12_1 ⟨Nat.le_of_ble_eq_true rfl, Nat.le_of_ble_eq_true rfl⟩ ⟨rfl, rfl⟩ rfl hl.1 rfl (Nat.le_of_ble_eq_true rfl) dX9_learnMethod_152 ⟨Nat.zero_le _, Nat.zero_le _⟩ hS (fun locs hS => ?_)
                refine z_callSN C (As := [.ref (ad 8), zN k, zN (kdW F fp ln (i + 1))]) (rest := []) (c_put l Z hM 8 (by decide) k rfl (by show _ < 500; omega) (zI ((kdW F fp ln (i + 1) : Nat) : Int))) ⟨⟨zw_10_12, zw_1_2⟩, zd_X11_put⟩ (by decide) zw_10_11 ⟨Nat.le_of_ble_eq_true rfl, Nat.le_of_ble_eq_true rfl⟩ ⟨rfl, rfl⟩ rfl hl.1 rfl (Nat.le_of_ble_eq_true rfl) dX9_learnMethod_155 ⟨Nat.zero_le _, Nat.zero_le _⟩ hS (fun _ h => ⟨8, by decide, h⟩) (fun v H locs hp hS _ _ => ?_)
                obtain ⟨rfl, hM⟩ := hp
                have hB : cSrc (sf (sf τ 9 (upd (τ.2.1 9) k (zI ((q : Nat) : Int)))) 8 (upd ((sf τ 9 (upd (τ.2.1 9) k (zI ((q : Nat) : Int)))).2.1 8) k (zI ((kdW F fp ln (i + 1) : Nat) : Int)))) F n := hB.sf (by decide)
                exact hret _ _ _ _ hS ⟨rfl, _, hM, (by rw [show rsV F fp ln = kdW F fp ln (i + 1) from (by unfold rsV; rw [if_pos ⟨hz, by rw [e0]; show nmC F fp ln i = 41; omega⟩, if_neg (by rw [e0]; show ¬ (i + 2 = ln ∧ nmC F fp ln (i + 1) = 86); omega), e0]), show paV F fp ln = q from (by unfold paV; rw [if_pos ⟨hz, by rw [e0]; show nmC F fp ln i = 41; omega⟩, e0])]; exact lm1)⟩ dX9_learnMethod_158
              · refine lv_aload_n C.1 C.2.1 dX9_learnMethod_125 rfl (lv_at hl 3 rfl) ?_
                refine z_get C (v := .ref (ad 8)) hM.pol rfl bi_wsX70 5 (by decide) zw_12_14 rfl rfl dX9_learnMethod_126 ?_
                refine lv_iload_n C.1 C.2.1 dX9_learnMethod_129 rfl (lv_at hl 4 rfl) ?_
                refine lv_bipush (v := zI 7) C.1 C.2.1 dX9_learnMethod_130 (by decide) ?_
                refine z_callSN C (As := [.ref (ad 8), zN k, zN 7]) (rest := []) (c_put l Z hM 8 (by decide) k rfl (by show _ < 500; omega) (zI 7)) ⟨⟨zw_10_12, zw_1_2⟩, zd_X11_put⟩ (by decide) zw_10_11 ⟨Nat.le_of_ble_eq_true rfl, Nat.le_of_ble_eq_true rfl⟩ ⟨rfl, rfl⟩ rfl hl.1 rfl (Nat.le_of_ble_eq_true rfl) dX9_learnMethod_132 ⟨Nat.zero_le _, Nat.zero_le _⟩ hS (fun _ h => ⟨8, by decide, h⟩) (fun v H locs hp hS _ _ => ?_)
                obtain ⟨rfl, hM⟩ := hp
                have hB : cSrc (sf (sf τ 9 (upd (τ.2.1 9) k (zI ((q : Nat) : Int)))) 8 (upd ((sf τ 9 (upd (τ.2.1 9) k (zI ((q : Nat) : Int)))).2.1 8) k (zI 7))) F n := hB.sf (by decide)
                refine lv_goto (tgt := 158) C.1 C.2.1 dX9_learnMethod_135 (by decide) ?_
                exact hret _ _ _ _ hS ⟨rfl, _, hM, (by rw [show rsV F fp ln = 7 from (by unfold rsV; rw [if_pos ⟨hz, by rw [e0]; show nmC F fp ln i = 41; omega⟩, if_pos (by rw [e0]; show i + 2 = ln ∧ nmC F fp ln (i + 1) = 86; omega)]), show paV F fp ln = q from (by unfold paV; rw [if_pos ⟨hz, by rw [e0]; show nmC F fp ln i = 41; omega⟩, e0])]; exact lm1)⟩ dX9_learnMethod_158
          · exact hret _ _ _ _ hS ⟨rfl, _, hM, lm0 h8 h9 (by unfold rsV; rw [if_neg (by rw [e0]; show ¬ (_ ∧ nmC F fp ln i = 41); omega)]) (by unfold paV; rw [if_neg (by rw [e0]; show ¬ (_ ∧ nmC F fp ln i = 41); omega)])⟩ dX9_learnMethod_90
      · refine lv_iload C.1 C.2.1 dX9_learnMethod_24 (lv_at hl 0 rfl) ?_
        refine y_if_eq (tgt := 70) C (a := ((kd F fp ln i : Nat) : Int)) dX9_learnMethod_26 (by decide) (by omega) (fun h26 => ?_) (fun h26 => ?_)
        · have e0 : ppI F fp ln = (i, q) := by rw [← he]; unfold ppL; rw [if_neg (by rw [hki.1 (by omega)]; omega)]
          refine lv_iload C.1 C.2.1 dX9_learnMethod_70 (lv_at hl 1 rfl) ?_
          refine lv_iload_n C.1 C.2.1 dX9_learnMethod_72 rfl (lv_at hl 6 rfl) ?_
          refine y_icmp_ge (tgt := 90) C (a := ((fp + i : Nat) : Int)) (b := ((fp + ln : Nat) : Int)) dX9_learnMethod_73 (by decide) (by omega) (fun h73 => ?_) (fun h73 => ?_)
          · exact hret _ _ _ _ hS ⟨rfl, _, hM, lm0 h8 h9 (by unfold rsV; rw [if_neg (by rw [e0]; show ¬ (_ ∧ nmC F fp ln i = 41); omega)]) (by unfold paV; rw [if_neg (by rw [e0]; show ¬ (_ ∧ nmC F fp ln i = 41); omega)])⟩ dX9_learnMethod_90
          · refine lv_aload_n C.1 C.2.1 dX9_learnMethod_76 rfl (lv_at hl 3 rfl) ?_
            refine z_get C (v := .ref (ad 1)) hM.pol rfl bi_wsX70 0 (by decide) zw_11_22 rfl rfl dX9_learnMethod_77 ?_
            refine lv_iload C.1 C.2.1 dX9_learnMethod_80 (lv_at hl 1 rfl) ?_
            refine z_readV C (As := [zN (fp + i)]) (rest := []) (c_u1 l Z hM hB (fp + i) rfl (by omega)) hM.byt rfl ⟨⟨zw_9_12, zw_2_15, zw_12_6⟩, zd_X1_u1⟩ zw_9_10 zw_9_11 ⟨Nat.le_of_ble_eq_true rfl, Nat.le_of_ble_eq_true rfl⟩ ⟨rfl, rfl⟩ rfl hl.1 rfl (Nat.le_of_ble_eq_true rfl) dX9_learnMethod_82 ⟨Nat.zero_le _, Nat.zero_le _⟩ hS (fun locs hS => ?_)
            have := hB.1 (fp + i)
            refine lv_bipush (v := zI 41) C.1 C.2.1 dX9_learnMethod_85 (by decide) ?_
            refine y_icmp_eq (tgt := 91) C (a := ((F (fp + i) : Nat) : Int)) (b := 41) dX9_learnMethod_87 (by decide) (by omega) (fun h87 => ?_) (fun h87 => ?_)
            · refine lv_aload_n C.1 C.2.1 dX9_learnMethod_91 rfl (lv_at hl 3 rfl) ?_
              refine z_get C (v := .ref (ad 9)) hM.pol rfl bi_wsX70 6 (by decide) zw_12_13 rfl rfl dX9_learnMethod_92 ?_
              refine lv_iload_n C.1 C.2.1 dX9_learnMethod_95 rfl (lv_at hl 4 rfl) ?_
              refine lv_iload C.1 C.2.1 dX9_learnMethod_96 (lv_at hl 2 rfl) ?_
              refine z_callSN C (As := [.ref (ad 9), zN k, zN q]) (rest := []) (c_put l Z hM 9 (by decide) k rfl (by show _ < 500; omega) (zI ((q : Nat) : Int))) ⟨⟨zw_10_12, zw_1_2⟩, zd_X11_put⟩ (by decide) zw_10_11 ⟨Nat.le_of_ble_eq_true rfl, Nat.le_of_ble_eq_true rfl⟩ ⟨rfl, rfl⟩ rfl hl.1 rfl (Nat.le_of_ble_eq_true rfl) dX9_learnMethod_98 ⟨Nat.zero_le _, Nat.zero_le _⟩ hS (fun _ h => ⟨9, by decide, h⟩) (fun v H locs hp hS _ _ => ?_)
              obtain ⟨rfl, hM⟩ := hp
              have hB : cSrc (sf τ 9 (upd (τ.2.1 9) k (zI ((q : Nat) : Int)))) F n := hB.sf (by decide)
              refine lv_iload C.1 C.2.1 dX9_learnMethod_101 (lv_at hl 1 rfl) ?_
              refine lv_iconst (v := zI 2) C.1 C.2.1 dX9_learnMethod_103 (by decide) ?_
              refine y_iaddN C (a := fp + i) (b := 2) dX9_learnMethod_104 ?_
              refine lv_iload_n C.1 C.2.1 dX9_learnMethod_105 rfl (lv_at hl 6 rfl) ?_
              refine y_icmp_ne (tgt := 138) C (a := (((fp + i) + 2 : Nat) : Int)) (b := ((fp + ln : Nat) : Int)) dX9_learnMethod_106 (by decide) (by omega) (fun h106 => ?_) (fun h106 => ?_)
              · refine lv_aload_n C.1 C.2.1 dX9_learnMethod_138 rfl (lv_at hl 3 rfl) ?_
                refine z_get C (v := .ref (ad 8)) hM.pol rfl bi_wsX70 5 (by decide) zw_12_14 rfl rfl dX9_learnMethod_139 ?_
                refine lv_iload_n C.1 C.2.1 dX9_learnMethod_142 rfl (lv_at hl 4 rfl) ?_
                refine lv_aload_n C.1 C.2.1 dX9_learnMethod_143 rfl (lv_at hl 3 rfl) ?_
                refine z_get C (v := .ref (ad 1)) hM.pol rfl bi_wsX70 0 (by decide) zw_11_22 rfl rfl dX9_learnMethod_144 ?_
                refine lv_iload C.1 C.2.1 dX9_learnMethod_147 (lv_at hl 1 rfl) ?_
                refine lv_iconst (v := zI 1) C.1 C.2.1 dX9_learnMethod_149 (by decide) ?_
                refine y_iaddN C (a := fp + i) (b := 1) dX9_learnMethod_150 ?_
                refine lv_iload_n C.1 C.2.1 dX9_learnMethod_151 rfl (lv_at hl 6 rfl) ?_
                refine z_readS C (As := [.ref (ad 1), zN ((fp + i) + 1), zN (fp + ln)]) (rest := [zN k, .ref (ad 8)]) (c_X9_wholeFrom l Z hM hB (fp := fp) (ln := ln) (by omega) (i + 1) (by omega) (by omega) (by omega)) ⟨⟨zw_12_2, zw_11_16, zw_12_0⟩, zd_X9_wholeFrom⟩ zw_12_1 ⟨Nat.le_of_ble_eq_true rfl, Nat.le_of_ble_eq_true rfl⟩ ⟨rfl, rfl⟩ rfl hl.1 rfl (Nat.le_of_ble_eq_true rfl) dX9_learnMethod_152 ⟨Nat.zero_le _, Nat.zero_le _⟩ hS (fun locs hS => ?_)
                refine z_callSN C (As := [.ref (ad 8), zN k, zN (kdW F fp ln (i + 1))]) (rest := []) (c_put l Z hM 8 (by decide) k rfl (by show _ < 500; omega) (zI ((kdW F fp ln (i + 1) : Nat) : Int))) ⟨⟨zw_10_12, zw_1_2⟩, zd_X11_put⟩ (by decide) zw_10_11 ⟨Nat.le_of_ble_eq_true rfl, Nat.le_of_ble_eq_true rfl⟩ ⟨rfl, rfl⟩ rfl hl.1 rfl (Nat.le_of_ble_eq_true rfl) dX9_learnMethod_155 ⟨Nat.zero_le _, Nat.zero_le _⟩ hS (fun _ h => ⟨8, by decide, h⟩) (fun v H locs hp hS _ _ => ?_)
                obtain ⟨rfl, hM⟩ := hp
                have hB : cSrc (sf (sf τ 9 (upd (τ.2.1 9) k (zI ((q : Nat) : Int)))) 8 (upd ((sf τ 9 (upd (τ.2.1 9) k (zI ((q : Nat) : Int)))).2.1 8) k (zI ((kdW F fp ln (i + 1) : Nat) : Int)))) F n := hB.sf (by decide)
                exact hret _ _ _ _ hS ⟨rfl, _, hM, (by rw [show rsV F fp ln = kdW F fp ln (i + 1) from (by unfold rsV; rw [if_pos ⟨hz, by rw [e0]; show nmC F fp ln i = 41; omega⟩, if_neg (by rw [e0]; show ¬ (i + 2 = ln ∧ nmC F fp ln (i + 1) = 86); omega), e0]), show paV F fp ln = q from (by unfold paV; rw [if_pos ⟨hz, by rw [e0]; show nmC F fp ln i = 41; omega⟩, e0])]; exact lm1)⟩ dX9_learnMethod_158
              · refine lv_aload_n C.1 C.2.1 dX9_learnMethod_109 rfl (lv_at hl 3 rfl) ?_
                refine z_get C (v := .ref (ad 1)) hM.pol rfl bi_wsX70 0 (by decide) zw_11_22 rfl rfl dX9_learnMethod_110 ?_
                refine lv_iload C.1 C.2.1 dX9_learnMethod_113 (lv_at hl 1 rfl) ?_
                refine lv_iconst (v := zI 1) C.1 C.2.1 dX9_learnMethod_115 (by decide) ?_
                refine y_iaddN C (a := fp + i) (b := 1) dX9_learnMethod_116 ?_
                refine z_readV C (As := [zN ((fp + i) + 1)]) (rest := []) (c_u1 l Z hM hB (fp + (i + 1)) (by omega) (by omega)) hM.byt rfl ⟨⟨zw_9_12, zw_2_15, zw_12_6⟩, zd_X1_u1⟩ zw_9_10 zw_9_11 ⟨Nat.le_of_ble_eq_true rfl, Nat.le_of_ble_eq_true rfl⟩ ⟨rfl, rfl⟩ rfl hl.1 rfl (Nat.le_of_ble_eq_true rfl) dX9_learnMethod_117 ⟨Nat.zero_le _, Nat.zero_le _⟩ hS (fun locs hS => ?_)
                have := hB.1 (fp + (i + 1))
                refine lv_bipush (v := zI 86) C.1 C.2.1 dX9_learnMethod_120 (by decide) ?_
                refine y_icmp_ne (tgt := 138) C (a := ((F (fp + (i + 1)) : Nat) : Int)) (b := 86) dX9_learnMethod_122 (by decide) (by omega) (fun h122 => ?_) (fun h122 => ?_)
                · refine lv_aload_n C.1 C.2.1 dX9_learnMethod_138 rfl (lv_at hl 3 rfl) ?_
                  refine z_get C (v := .ref (ad 8)) hM.pol rfl bi_wsX70 5 (by decide) zw_12_14 rfl rfl dX9_learnMethod_139 ?_
                  refine lv_iload_n C.1 C.2.1 dX9_learnMethod_142 rfl (lv_at hl 4 rfl) ?_
                  refine lv_aload_n C.1 C.2.1 dX9_learnMethod_143 rfl (lv_at hl 3 rfl) ?_
                  refine z_get C (v := .ref (ad 1)) hM.pol rfl bi_wsX70 0 (by decide) zw_11_22 rfl rfl dX9_learnMethod_144 ?_
                  refine lv_iload C.1 C.2.1 dX9_learnMethod_147 (lv_at hl 1 rfl) ?_
                  refine lv_iconst (v := zI 1) C.1 C.2.1 dX9_learnMethod_149 (by decide) ?_
                  refine y_iaddN C (a := fp + i) (b := 1) dX9_learnMethod_150 ?_
                  refine lv_iload_n C.1 C.2.1 dX9_learnMethod_151 rfl (lv_at hl 6 rfl) ?_
                  refine z_readS C (As := [.ref (ad 1), zN ((fp + i) + 1), zN (fp + ln)]) (rest := [zN k, .ref (ad 8)]) (c_X9_wholeFrom l Z hM hB (fp := fp) (ln := ln) (by omega) (i + 1) (by omega) (by omega) (by omega)) ⟨⟨zw_12_2, zw_11_16, zw_12_0⟩, zd_X9_wholeFrom⟩ zw_12_1 ⟨Nat.le_of_ble_eq_true rfl, Nat.le_of_ble_eq_true rfl⟩ ⟨rfl, rfl⟩ rfl hl.1 rfl (Nat.le_of_ble_eq_true rfl) dX9_learnMethod_152 ⟨Nat.zero_le _, Nat.zero_le _⟩ hS (fun locs hS => ?_)
                  refine z_callSN C (As := [.ref (ad 8), zN k, zN (kdW F fp ln (i + 1))]) (rest := []) (c_put l Z hM 8 (by decide) k rfl (by show _ < 500; omega) (zI ((kdW F fp ln (i + 1) : Nat) : Int))) ⟨⟨zw_10_12, zw_1_2⟩, zd_X11_put⟩ (by decide) zw_10_11 ⟨Nat.le_of_ble_eq_true rfl, Nat.le_of_ble_eq_true rfl⟩ ⟨rfl, rfl⟩ rfl hl.1 rfl (Nat.le_of_ble_eq_true rfl) dX9_learnMethod_155 ⟨Nat.zero_le _, Nat.zero_le _⟩ hS (fun _ h => ⟨8, by decide, h⟩) (fun v H locs hp hS _ _ => ?_)
                  obtain ⟨rfl, hM⟩ := hp
                  have hB : cSrc (sf (sf τ 9 (upd (τ.2.1 9) k (zI ((q : Nat) : Int)))) 8 (upd ((sf τ 9 (upd (τ.2.1 9) k (zI ((q : Nat) : Int)))).2.1 8) k (zI ((kdW F fp ln (i + 1) : Nat) : Int)))) F n := hB.sf (by decide)
                  exact hret _ _ _ _ hS ⟨rfl, _, hM, (by rw [show rsV F fp ln = kdW F fp ln (i + 1) from (by unfold rsV; rw [if_pos ⟨hz, by rw [e0]; show nmC F fp ln i = 41; omega⟩, if_neg (by rw [e0]; show ¬ (i + 2 = ln ∧ nmC F fp ln (i + 1) = 86); omega), e0]), show paV F fp ln = q from (by unfold paV; rw [if_pos ⟨hz, by rw [e0]; show nmC F fp ln i = 41; omega⟩, e0])]; exact lm1)⟩ dX9_learnMethod_158
                · refine lv_aload_n C.1 C.2.1 dX9_learnMethod_125 rfl (lv_at hl 3 rfl) ?_
                  refine z_get C (v := .ref (ad 8)) hM.pol rfl bi_wsX70 5 (by decide) zw_12_14 rfl rfl dX9_learnMethod_126 ?_
                  refine lv_iload_n C.1 C.2.1 dX9_learnMethod_129 rfl (lv_at hl 4 rfl) ?_
                  refine lv_bipush (v := zI 7) C.1 C.2.1 dX9_learnMethod_130 (by decide) ?_
                  refine z_callSN C (As := [.ref (ad 8), zN k, zN 7]) (rest := []) (c_put l Z hM 8 (by decide) k rfl (by show _ < 500; omega) (zI 7)) ⟨⟨zw_10_12, zw_1_2⟩, zd_X11_put⟩ (by decide) zw_10_11 ⟨Nat.le_of_ble_eq_true rfl, Nat.le_of_ble_eq_true rfl⟩ ⟨rfl, rfl⟩ rfl hl.1 rfl (Nat.le_of_ble_eq_true rfl) dX9_learnMethod_132 ⟨Nat.zero_le _, Nat.zero_le _⟩ hS (fun _ h => ⟨8, by decide, h⟩) (fun v H locs hp hS _ _ => ?_)
                  obtain ⟨rfl, hM⟩ := hp
                  have hB : cSrc (sf (sf τ 9 (upd (τ.2.1 9) k (zI ((q : Nat) : Int)))) 8 (upd ((sf τ 9 (upd (τ.2.1 9) k (zI ((q : Nat) : Int)))).2.1 8) k (zI 7))) F n := hB.sf (by decide)
                  refine lv_goto (tgt := 158) C.1 C.2.1 dX9_learnMethod_135 (by decide) ?_
                  exact hret _ _ _ _ hS ⟨rfl, _, hM, (by rw [show rsV F fp ln = 7 from (by unfold rsV; rw [if_pos ⟨hz, by rw [e0]; show nmC F fp ln i = 41; omega⟩, if_pos (by rw [e0]; show i + 2 = ln ∧ nmC F fp ln (i + 1) = 86; omega)]), show paV F fp ln = q from (by unfold paV; rw [if_pos ⟨hz, by rw [e0]; show nmC F fp ln i = 41; omega⟩, e0])]; exact lm1)⟩ dX9_learnMethod_158
            · exact hret _ _ _ _ hS ⟨rfl, _, hM, lm0 h8 h9 (by unfold rsV; rw [if_neg (by rw [e0]; show ¬ (_ ∧ nmC F fp ln i = 41); omega)]) (by unfold paV; rw [if_neg (by rw [e0]; show ¬ (_ ∧ nmC F fp ln i = 41); omega)])⟩ dX9_learnMethod_90
        · refine lv_iload C.1 C.2.1 dX9_learnMethod_29 (lv_at hl 2 rfl) ?_
          refine lv_iload C.1 C.2.1 dX9_learnMethod_31 (lv_at hl 0 rfl) ?_
          refine lv_iconst (v := zI 2) C.1 C.2.1 dX9_learnMethod_33 (by decide) ?_
          refine y_icmp_ne (tgt := 41) C (a := ((kd F fp ln i : Nat) : Int)) (b := 2) dX9_learnMethod_34 (by decide) (by omega) (fun h34 => ?_) (fun h34 => ?_)
          · refine lv_iconst (v := zI 1) C.1 C.2.1 dX9_learnMethod_41 (by decide) ?_
            refine y_iaddN C (a := q) (b := 1) dX9_learnMethod_42 ?_
            refine lv_istore (lv' := [(5, zN (q + 1)), (6, zN (kd F fp ln i)), (4, zN (fp + i)), (0, .ref (ad 3)), (1, zN k), (2, zN (fp + 1)), (3, zN (fp + ln))]) C.1 C.2.1 dX9_learnMethod_43 hl (by decide) rfl (fun ls hl => ?_)
            refine lv_iload C.1 C.2.1 dX9_learnMethod_45 (lv_at hl 2 rfl) ?_
            refine lv_iload C.1 C.2.1 dX9_learnMethod_47 (lv_at hl 1 rfl) ?_
            refine z_readS C (As := [zN (kd F fp ln i)]) (rest := [zN (fp + i)]) (c_X9_lettersOf l Z (kd F fp ln i) (by omega)) ⟨⟨zw_12_9, zw_11_16, zw_12_7⟩, zd_X9_lettersOf⟩ zw_12_8 ⟨Nat.le_of_ble_eq_true rfl, Nat.le_of_ble_eq_true rfl⟩ ⟨rfl, rfl⟩ rfl hl.1 rfl (Nat.le_of_ble_eq_true rfl) dX9_learnMethod_49 ⟨Nat.zero_le _, Nat.zero_le _⟩ hS (fun locs hS => ?_)
            have hlo := ltO_le (kd F fp ln i)
            refine y_iaddN C (a := fp + i) (b := ltO (kd F fp ln i)) dX9_learnMethod_52 ?_
            refine lv_istore (lv' := [(4, zN ((fp + i) + (ltO (kd F fp ln i)))), (5, zN (q + 1)), (6, zN (kd F fp ln i)), (0, .ref (ad 3)), (1, zN k), (2, zN (fp + 1)), (3, zN (fp + ln))]) C.1 C.2.1 dX9_learnMethod_53 hl (by decide) rfl (fun ls hl => ?_)
            rw [show ((fp + i) + (ltO (kd F fp ln i)) : Nat) = fp + (i + ltO (kd F fp ln i)) from Nat.add_assoc _ _ _] at hl
            refine lv_aload_n C.1 C.2.1 dX9_learnMethod_55 rfl (lv_at hl 3 rfl) ?_
            refine z_get C (v := .ref (ad 1)) hM.pol rfl bi_wsX70 0 (by decide) zw_11_22 rfl rfl dX9_learnMethod_56 ?_
            refine lv_iload C.1 C.2.1 dX9_learnMethod_59 (lv_at hl 0 rfl) ?_
            refine lv_iload_n C.1 C.2.1 dX9_learnMethod_61 rfl (lv_at hl 6 rfl) ?_
            refine z_readS C (As := [.ref (ad 1), zN (fp + (i + ltO (kd F fp ln i))), zN (fp + ln)]) (rest := []) (c_X9_kindAt l Z hM hB (fp := fp) (ln := ln) (by omega) (i + ltO (kd F fp ln i)) (by omega) (by omega) (by omega)) ⟨⟨zw_12_5, zw_11_16, zw_12_3⟩, zd_X9_kindAt⟩ zw_12_4 ⟨Nat.le_of_ble_eq_true rfl, Nat.le_of_ble_eq_true rfl⟩ ⟨rfl, rfl⟩ rfl hl.1 rfl (Nat.le_of_ble_eq_true rfl) dX9_learnMethod_62 ⟨Nat.zero_le _, Nat.zero_le _⟩ hS (fun locs hS => ?_)
            have hk62 := kd_ty F fp ln (i + ltO (kd F fp ln i))
            refine lv_istore (lv' := [(6, zN (kd F fp ln (i + ltO (kd F fp ln i)))), (4, zN (fp + (i + ltO (kd F fp ln i)))), (5, zN (q + 1)), (0, .ref (ad 3)), (1, zN k), (2, zN (fp + 1)), (3, zN (fp + ln))]) C.1 C.2.1 dX9_learnMethod_65 hl (by decide) rfl (fun ls hl => ?_)
            refine lv_goto (tgt := 18) C.1 C.2.1 dX9_learnMethod_67 (by decide) ?_
            exact ih_loop (i + ltO (kd F fp ln i)) (q + 1) ls _ hS (by have := kd_in (F := F) (fp := fp) (ln := ln) (i := i) (by omega); omega) (by omega) (by have := ltO_le (kd F fp ln i); have hz : kd F fp ln i = 2 → ltO (kd F fp ln i) = 1 := fun z => (by rw [z]; rfl); omega) (by rw [← he]; conv => rhs; unfold ppL; rw [if_pos (by rw [hki.2.1 (by omega)]; omega), hki.2.1 (by omega)]; rw [if_neg (by omega)]) hl
          · refine lv_iconst (v := zI 2) C.1 C.2.1 dX9_learnMethod_37 (by decide) ?_
            refine lv_goto (tgt := 42) C.1 C.2.1 dX9_learnMethod_38 (by decide) ?_
            refine y_iaddN C (a := q) (b := 2) dX9_learnMethod_42 ?_
            refine lv_istore (lv' := [(5, zN (q + 2)), (6, zN (kd F fp ln i)), (4, zN (fp + i)), (0, .ref (ad 3)), (1, zN k), (2, zN (fp + 1)), (3, zN (fp + ln))]) C.1 C.2.1 dX9_learnMethod_43 hl (by decide) rfl (fun ls hl => ?_)
            refine lv_iload C.1 C.2.1 dX9_learnMethod_45 (lv_at hl 2 rfl) ?_
            refine lv_iload C.1 C.2.1 dX9_learnMethod_47 (lv_at hl 1 rfl) ?_
            refine z_readS C (As := [zN (kd F fp ln i)]) (rest := [zN (fp + i)]) (c_X9_lettersOf l Z (kd F fp ln i) (by omega)) ⟨⟨zw_12_9, zw_11_16, zw_12_7⟩, zd_X9_lettersOf⟩ zw_12_8 ⟨Nat.le_of_ble_eq_true rfl, Nat.le_of_ble_eq_true rfl⟩ ⟨rfl, rfl⟩ rfl hl.1 rfl (Nat.le_of_ble_eq_true rfl) dX9_learnMethod_49 ⟨Nat.zero_le _, Nat.zero_le _⟩ hS (fun locs hS => ?_)
            have hlo := ltO_le (kd F fp ln i)
            refine y_iaddN C (a := fp + i) (b := ltO (kd F fp ln i)) dX9_learnMethod_52 ?_
            refine lv_istore (lv' := [(4, zN ((fp + i) + (ltO (kd F fp ln i)))), (5, zN (q + 2)), (6, zN (kd F fp ln i)), (0, .ref (ad 3)), (1, zN k), (2, zN (fp + 1)), (3, zN (fp + ln))]) C.1 C.2.1 dX9_learnMethod_53 hl (by decide) rfl (fun ls hl => ?_)
            rw [show ((fp + i) + (ltO (kd F fp ln i)) : Nat) = fp + (i + ltO (kd F fp ln i)) from Nat.add_assoc _ _ _] at hl
            refine lv_aload_n C.1 C.2.1 dX9_learnMethod_55 rfl (lv_at hl 3 rfl) ?_
            refine z_get C (v := .ref (ad 1)) hM.pol rfl bi_wsX70 0 (by decide) zw_11_22 rfl rfl dX9_learnMethod_56 ?_
            refine lv_iload C.1 C.2.1 dX9_learnMethod_59 (lv_at hl 0 rfl) ?_
            refine lv_iload_n C.1 C.2.1 dX9_learnMethod_61 rfl (lv_at hl 6 rfl) ?_
            refine z_readS C (As := [.ref (ad 1), zN (fp + (i + ltO (kd F fp ln i))), zN (fp + ln)]) (rest := []) (c_X9_kindAt l Z hM hB (fp := fp) (ln := ln) (by omega) (i + ltO (kd F fp ln i)) (by omega) (by omega) (by omega)) ⟨⟨zw_12_5, zw_11_16, zw_12_3⟩, zd_X9_kindAt⟩ zw_12_4 ⟨Nat.le_of_ble_eq_true rfl, Nat.le_of_ble_eq_true rfl⟩ ⟨rfl, rfl⟩ rfl hl.1 rfl (Nat.le_of_ble_eq_true rfl) dX9_learnMethod_62 ⟨Nat.zero_le _, Nat.zero_le _⟩ hS (fun locs hS => ?_)
            have hk62 := kd_ty F fp ln (i + ltO (kd F fp ln i))
            refine lv_istore (lv' := [(6, zN (kd F fp ln (i + ltO (kd F fp ln i)))), (4, zN (fp + (i + ltO (kd F fp ln i)))), (5, zN (q + 2)), (0, .ref (ad 3)), (1, zN k), (2, zN (fp + 1)), (3, zN (fp + ln))]) C.1 C.2.1 dX9_learnMethod_65 hl (by decide) rfl (fun ls hl => ?_)
            refine lv_goto (tgt := 18) C.1 C.2.1 dX9_learnMethod_67 (by decide) ?_
            exact ih_loop (i + ltO (kd F fp ln i)) (q + 2) ls _ hS (by have := kd_in (F := F) (fp := fp) (ln := ln) (i := i) (by omega); omega) (by omega) (by have := ltO_le (kd F fp ln i); have hz : kd F fp ln i = 2 → ltO (kd F fp ln i) = 1 := fun z => (by rw [z]; rfl); omega) (by rw [← he]; conv => rhs; unfold ppL; rw [if_pos (by rw [hki.2.1 (by omega)]; omega), hki.2.1 (by omega)]; rw [if_pos (by omega)]) hl
  exact loop (ln + 1) 1 0 ls _ hS (by omega) (by omega) (by omega) rfl (lv_sub hl [0, 2, 1, 3, 4, 5, 6] rfl)

/-- what the letters of entry k say, in the rows -/
def lnK (F tb : Nat → Nat) (τ : mS) (k : Nat) : Prop := τ.2.1 7 k = zI (kdW F (nP tb k) (nL F tb k) 0 : Int) ∧ τ.2.1 8 k = zI (rsV F (nP tb k) (nL F tb k) : Int) ∧ τ.2.1 9 k = zI (paV F (nP tb k) (nL F tb k) : Int)
def lnA (F tb : Nat → Nat) (pc : Nat) (τ : mS) (i : Nat) : Prop := (∀ k, k < i → k < pc → tg F tb k = 1 → lnK F tb τ k) ∧ ∀ k, i ≤ k → k < pc → τ.2.1 8 k = zI 0 ∧ τ.2.1 9 k = zI 0
theorem lnA.nx {F tb : Nat → Nat} {pc i : Nat} {τ : mS} (h : lnA F tb pc τ i) (e : tg F tb i ≠ 1) : lnA F tb pc τ (i + 1) := by
  refine ⟨fun k hk hp ht => ?_, fun k hk hp => h.2 k (by omega) hp⟩
  rcases Nat.lt_or_eq_of_le (Nat.le_of_lt_succ hk) with q | q
  · exact h.1 k q hp ht
  · subst q; exact absurd ht e
theorem rsV0 {F : Nat → Nat} {fp ln : Nat} (h : nmC F fp ln 0 ≠ 40) : rsV F fp ln = 0 ∧ paV F fp ln = 0 := by
  unfold rsV paV
  exact ⟨if_neg (fun z => h z.1), if_neg (fun z => h z.1)⟩
theorem lnA.st {F tb : Nat → Nat} {pc i : Nat} {τ τ1 τ2 : mS} (h : lnA F tb pc τ i) (e1 : τ1 = sf τ 7 (upd (τ.2.1 7) i (zI (kdW F (nP tb i) (nL F tb i) 0 : Int)))) (e2 : lmP τ1 τ2 i (rsV F (nP tb i) (nL F tb i)) (paV F (nP tb i) (nL F tb i))) : lnA F tb pc τ2 (i + 1) := by
  subst e1
  obtain ⟨c1, c2, c3, c4⟩ := e2
  have c7 : ∀ k, τ2.2.1 7 k = upd (τ.2.1 7) i (zI (kdW F (nP tb i) (nL F tb i) 0 : Int)) k := fun k => (congrFun (c1.2.1 7 (by decide)) k).trans (congrFun (sf_at τ 7 _) k)
  have c8 : ∀ j, j ≠ i → τ2.2.1 8 j = τ.2.1 8 j ∧ τ2.2.1 9 j = τ.2.1 9 j := fun j hj => c4 j hj
  refine ⟨fun k hk hp ht => ?_, fun k hk hp => ?_⟩
  · rcases Nat.lt_or_eq_of_le (Nat.le_of_lt_succ hk) with q | q
    · obtain ⟨a1, a2, a3⟩ := h.1 k q hp ht
      exact ⟨by rw [c7, upd_ne (by omega)]; exact a1, by rw [(c8 k (by omega)).1]; exact a2, by rw [(c8 k (by omega)).2]; exact a3⟩
    · subst q
      exact ⟨by rw [c7]; exact upd_2, c2, c3⟩
  · rw [(c8 k (by omega)).1, (c8 k (by omega)).2]
    exact h.2 k (by omega) hp

theorem isE_no {F tb : Nat → Nat} {pc k t : Nat} (h : isE F tb pc k t = false) : ¬ (1 ≤ k ∧ k < pc ∧ tg F tb k = t) := of_decide_eq_false h

set_option maxHeartbeats 4000000 in
set_option maxRecDepth 20000 in
theorem c_X9_learn (l : Launch) (Z : zT) {H : Heap} {ad : Nat → Nat} {τ : mS} {X : List (Nat × va_E)} (hM : isC Z H ad τ X) {F : Nat → Nat} {n : Nat} (hB : cSrc τ F n) {tb : Nat → Nat} {pc : Nat} (hP : cPl τ F tb pc) (hpc1 : 1 ≤ pc) (hNm : ∀ k, k < pc → tg F tb k = 1 → pNm F n tb k) (h00 : 0 < pc → tg F tb 0 ≠ 1) (h0 : ∀ k, k < pc → τ.2.1 8 k = zI 0 ∧ τ.2.1 9 k = zI 0) : zM l Z yX9_learn cX9_learn 4 none (rmk 5) [.ref (ad 3)] H (cA ad) 0 0 (fun v H' => v = none ∧ ∃ τ' : mS, isC Z H' ad τ' X ∧ chg [] [7, 8, 9] τ τ' ∧ ∀ k, 1 ≤ k → k < pc → tg F tb k = 1 → lnK F tb τ' k) := by
  have hn := hB.2.2.2
  have hpc := hP.2.1
  have hA : lnA F tb pc τ 1 := ⟨fun k hk hp ht => (by rw [show k = 0 by omega] at ht; exact absurd ht (h00 (by omega))), fun k _ hp => h0 k hp⟩
  refine zM.introV (own := RX9) ⟨by decide, rfl⟩ (Nat.le_of_ble_eq_true rfl) ?_
  intro p e s m args below meth c Q ls hH C hnm hl hret
  have hS : va_S (cA ad) s.heap H [] := by rw [hH]; exact va_S.rf
  have hl : lv_has ls 4 [(0, .ref (ad 3))] := hl
  refine lv_iconst (v := zI 1) C.1 C.2.1 dX9_learn_0 (by decide) ?_
  refine lv_istore_n (lv' := [(1, zN 1), (0, .ref (ad 3))]) C.1 C.2.1 dX9_learn_1 rfl hl (by decide) rfl (fun ls hl => ?_)
  have loop : ∀ (fu : Nat) (i : Nat) (τ1 : mS) (H : Heap) (ls : Array Slot) (locs : List Loc), va_S (cA ad) s.heap H locs → isC Z H ad τ1 X → (1 ≤ i ∧ i ≤ pc ∧ pc < i + fu) → (chg [] [7, 8, 9] τ τ1) → (cSrc τ1 F n) → (cPl τ1 F tb pc) → (lnA F tb pc τ1 i) → lv_has ls 4 [(1, zN i), (0, .ref (ad 3))] → W p l e (rmk 5) s m args below meth c H locs 0 0 Q (F0 m 2 ls []) := by
    intro fu
    induction fu with
    | zero =>
      intro i τ1 H ls locs hS hM hi hc hB hP hA hl
      omega
    | succ fu ih_loop =>
      intro i τ1 H ls locs hS hM hi hc hB hP hA hl
      refine lv_iload_n C.1 C.2.1 dX9_learn_2 rfl (lv_at hl 0 rfl) ?_
      refine lv_aload_n C.1 C.2.1 dX9_learn_3 rfl (lv_at hl 1 rfl) ?_
      refine z_get C (v := .int (τ1.1 1)) hM.pol rfl bi_wsX70 8 (by decide) zw_11_18 rfl rfl dX9_learn_4 ?_
      refine z_re (y := zI ((pc : Nat) : Int)) hP.1 ?_
      refine y_icmp_ge (tgt := 86) C (a := ((i : Nat) : Int)) (b := ((pc : Nat) : Int)) dX9_learn_7 (by decide) (by omega) (fun h7 => ?_) (fun h7 => ?_)
      · exact hret _ _ _ _ hS ⟨rfl, τ1, hM, hc, fun k hk hp ht => hA.1 k (by omega) hp ht⟩ dX9_learn_86
      · refine lv_aload_n C.1 C.2.1 dX9_learn_10 rfl (lv_at hl 1 rfl) ?_
        refine lv_iconst (v := zI 1) C.1 C.2.1 dX9_learn_11 (by decide) ?_
        refine lv_iload_n C.1 C.2.1 dX9_learn_12 rfl (lv_at hl 0 rfl) ?_
        refine z_readV C (As := [zN 1, zN i]) (rest := []) (c_X7_is l Z hM hB hP 1 (by decide) i rfl (by omega)) hM.pol rfl ⟨⟨zw_11_11, zw_2_19, zw_11_23⟩, zd_X7_is⟩ zw_11_9 zw_11_10 ⟨Nat.le_of_ble_eq_true rfl, Nat.le_of_ble_eq_true rfl⟩ ⟨rfl, rfl⟩ rfl hl.1 rfl (Nat.le_of_ble_eq_true rfl) dX9_learn_13 ⟨Nat.zero_le _, Nat.zero_le _⟩ hS (fun locs hS => ?_)
        refine y_ifb_eq (tgt := 80) C dX9_learn_16 (by decide) (fun h16 => ?_) (fun h16 => ?_)
        · refine lv_iinc (v := zI ((i + 1 : Nat) : Int)) (lv' := [(1, zN (i + 1)), (0, .ref (ad 3))]) C.1 C.2.1 dX9_learn_80 hl (k := 0) rfl (zI_add _ _) (by decide) rfl (fun ls hl => ?_)
          refine lv_goto (tgt := 2) C.1 C.2.1 dX9_learn_83 (by decide) ?_
          exact ih_loop (i + 1) _ _ ls _ hS hM (by omega) (hc) (by first | exact hB | exact hB.chg hT.1 (by decide) (by decide)) (by first | exact hP | exact hP.chg hT.1 (by decide) (by decide)) (hA.nx (fun z => by have := isE_no h16 ; omega)) hl
        · have hN := hNm i (by omega) (isE_t h16).2.2
          obtain ⟨b1, b2, b3, b4, b5⟩ := id hN
          have hpos := (isE_t h16).2.1
          refine lv_aload_n C.1 C.2.1 dX9_learn_19 rfl (lv_at hl 1 rfl) ?_
          refine z_get C (v := .ref (ad 4)) hM.pol rfl bi_wsX70 1 (by decide) zw_11_19 rfl rfl dX9_learn_20 ?_
          refine lv_iload_n C.1 C.2.1 dX9_learn_23 rfl (lv_at hl 0 rfl) ?_
          refine z_readSN C (As := [.ref (ad 4), zN i]) (rest := []) (c_at l Z (hM.row 4 (by decide)) (by decide) i rfl (by show _ < 500; omega)) ⟨⟨zw_11_13, zw_1_2⟩, zd_X11_at⟩ (by decide) zw_11_12 ⟨Nat.le_of_ble_eq_true rfl, Nat.le_of_ble_eq_true rfl⟩ ⟨rfl, rfl⟩ rfl hl.1 rfl (Nat.le_of_ble_eq_true rfl) dX9_learn_24 ⟨Nat.zero_le _, Nat.zero_le _⟩ hS (fun locs hS => ?_)
          refine z_re (y := zI ((tb i : Nat) : Int)) ((hP.2.2 i (by omega)).1) ?_
          refine lv_iconst (v := zI 3) C.1 C.2.1 dX9_learn_27 (by decide) ?_
          refine y_iaddN C (a := tb i) (b := 3) dX9_learn_28 ?_
          refine lv_istore_n (lv' := [(2, zN ((tb i) + 3)), (1, zN i), (0, .ref (ad 3))]) C.1 C.2.1 dX9_learn_29 rfl hl (by decide) rfl (fun ls hl => ?_)
          refine lv_iload_n C.1 C.2.1 dX9_learn_30 rfl (lv_at hl 0 rfl) ?_
          refine lv_aload_n C.1 C.2.1 dX9_learn_31 rfl (lv_at hl 2 rfl) ?_
          refine z_get C (v := .ref (ad 6)) hM.pol rfl bi_wsX70 3 (by decide) zw_11_20 rfl rfl dX9_learn_32 ?_
          refine lv_iload_n C.1 C.2.1 dX9_learn_35 rfl (lv_at hl 1 rfl) ?_
          refine z_readSN C (As := [.ref (ad 6), zN i]) (rest := [zN ((tb i) + 3)]) (c_at l Z (hM.row 6 (by decide)) (by decide) i rfl (by show _ < 500; omega)) ⟨⟨zw_11_13, zw_1_2⟩, zd_X11_at⟩ (by decide) zw_11_12 ⟨Nat.le_of_ble_eq_true rfl, Nat.le_of_ble_eq_true rfl⟩ ⟨rfl, rfl⟩ rfl hl.1 rfl (Nat.le_of_ble_eq_true rfl) dX9_learn_36 ⟨Nat.zero_le _, Nat.zero_le _⟩ hS (fun locs hS => ?_)
          refine z_re (y := zI ((lnE F tb i : Nat) : Int)) ((hP.2.2 i (by omega)).2.2) ?_
          refine z_re (y := zI ((nL F tb i : Nat) : Int)) (zI_c (congrArg Nat.cast hN.ln)) ?_
          refine y_iaddN C (a := (tb i) + 3) (b := nL F tb i) dX9_learn_39 ?_
          refine lv_istore_n (lv' := [(3, zN (((tb i) + 3) + (nL F tb i))), (2, zN ((tb i) + 3)), (1, zN i), (0, .ref (ad 3))]) C.1 C.2.1 dX9_learn_40 rfl hl (by decide) rfl (fun ls hl => ?_)
          refine lv_aload_n C.1 C.2.1 dX9_learn_41 rfl (lv_at hl 3 rfl) ?_
          refine z_get C (v := .ref (ad 7)) hM.pol rfl bi_wsX70 4 (by decide) zw_11_21 rfl rfl dX9_learn_42 ?_
          refine lv_iload_n C.1 C.2.1 dX9_learn_45 rfl (lv_at hl 2 rfl) ?_
          refine lv_aload_n C.1 C.2.1 dX9_learn_46 rfl (lv_at hl 3 rfl) ?_
          refine z_get C (v := .ref (ad 1)) hM.pol rfl bi_wsX70 0 (by decide) zw_11_22 rfl rfl dX9_learn_47 ?_
          refine lv_iload_n C.1 C.2.1 dX9_learn_50 rfl (lv_at hl 1 rfl) ?_
          refine lv_iload_n C.1 C.2.1 dX9_learn_51 rfl (lv_at hl 0 rfl) ?_
          refine z_readS C (As := [.ref (ad 1), zN ((tb i) + 3), zN (((tb i) + 3) + (nL F tb i))]) (rest := [zN i, .ref (ad 7)]) (c_X9_wholeFrom l Z hM hB (fp := tb i + 3) (ln := nL F tb i) (by omega) 0 (by omega) (by omega) (by omega)) ⟨⟨zw_12_2, zw_11_16, zw_12_0⟩, zd_X9_wholeFrom⟩ zw_12_1 ⟨Nat.le_of_ble_eq_true rfl, Nat.le_of_ble_eq_true rfl⟩ ⟨rfl, rfl⟩ rfl hl.1 rfl (Nat.le_of_ble_eq_true rfl) dX9_learn_52 ⟨Nat.zero_le _, Nat.zero_le _⟩ hS (fun locs hS => ?_)
          refine z_callSN C (As := [.ref (ad 7), zN i, zN (kdW F (tb i + 3) (nL F tb i) 0)]) (rest := []) (c_put l Z hM 7 (by decide) i rfl (by show _ < 500; omega) (zI ((kdW F (tb i + 3) (nL F tb i) 0 : Nat) : Int))) ⟨⟨zw_10_12, zw_1_2⟩, zd_X11_put⟩ (by decide) zw_10_11 ⟨Nat.le_of_ble_eq_true rfl, Nat.le_of_ble_eq_true rfl⟩ ⟨rfl, rfl⟩ rfl hl.1 rfl (Nat.le_of_ble_eq_true rfl) dX9_learn_55 ⟨Nat.zero_le _, Nat.zero_le _⟩ hS (fun _ h => ⟨7, by decide, h⟩) (fun v H locs hp hS _ _ => ?_)
          obtain ⟨rfl, hM⟩ := hp
          have hB : cSrc (sf τ1 7 (upd (τ1.2.1 7) i (zI ((kdW F (tb i + 3) (nL F tb i) 0 : Nat) : Int)))) F n := hB.sf (by decide)
          have hP : cPl (sf τ1 7 (upd (τ1.2.1 7) i (zI ((kdW F (tb i + 3) (nL F tb i) 0 : Nat) : Int)))) F tb pc := hP.sf (by decide)
          refine lv_aload_n C.1 C.2.1 dX9_learn_58 rfl (lv_at hl 3 rfl) ?_
          refine z_get C (v := .ref (ad 1)) hM.pol rfl bi_wsX70 0 (by decide) zw_11_22 rfl rfl dX9_learn_59 ?_
          refine lv_iload_n C.1 C.2.1 dX9_learn_62 rfl (lv_at hl 1 rfl) ?_
          refine z_readV C (As := [zN ((tb i) + 3)]) (rest := []) (c_u1 l Z hM hB ((tb i) + 3) rfl (by omega)) hM.byt rfl ⟨⟨zw_9_12, zw_2_15, zw_12_6⟩, zd_X1_u1⟩ zw_9_10 zw_9_11 ⟨Nat.le_of_ble_eq_true rfl, Nat.le_of_ble_eq_true rfl⟩ ⟨rfl, rfl⟩ rfl hl.1 rfl (Nat.le_of_ble_eq_true rfl) dX9_learn_63 ⟨Nat.zero_le _, Nat.zero_le _⟩ hS (fun locs hS => ?_)
          have := hB.1 ((tb i) + 3)
          refine lv_bipush (v := zI 40) C.1 C.2.1 dX9_learn_66 (by decide) ?_
          refine y_icmp_ne (tgt := 80) C (a := ((F ((tb i) + 3) : Nat) : Int)) (b := 40) dX9_learn_68 (by decide) (by omega) (fun h68 => ?_) (fun h68 => ?_)
          · refine lv_iinc (v := zI ((i + 1 : Nat) : Int)) (lv' := [(1, zN (i + 1)), (3, zN (((tb i) + 3) + (nL F tb i))), (2, zN ((tb i) + 3)), (0, .ref (ad 3))]) C.1 C.2.1 dX9_learn_80 hl (k := 2) rfl (zI_add _ _) (by decide) rfl (fun ls hl => ?_)
            refine lv_goto (tgt := 2) C.1 C.2.1 dX9_learn_83 (by decide) ?_
            exact ih_loop (i + 1) _ _ ls _ hS hM (by omega) (chg_sf (by decide) hc) (by first | exact hB | exact hB.chg hT.1 (by decide) (by decide)) (by first | exact hP | exact hP.chg hT.1 (by decide) (by decide)) (hA.st rfl (by obtain ⟨r0, p0⟩ := rsV0 (F := F) (fp := nP tb i) (ln := nL F tb i) (by show (if 0 < nL F tb i then F (nP tb i + 0) else 0) ≠ 40; rw [if_pos (by omega)]; show F (tb i + 3) ≠ 40; omega); rw [r0, p0]; exact lm0 (τ := (sf τ1 7 (upd (τ1.2.1 7) i (zI ((kdW F (tb i + 3) (nL F tb i) 0 : Nat) : Int))))) (hA.2 i (by omega) (by omega)).1 (hA.2 i (by omega) (by omega)).2 rfl rfl)) (lv_sub hl [0, 3] rfl)
          · have hz0 : nmC F (tb i + 3) (nL F tb i) 0 = (if 0 < nL F tb i then F (tb i + 3) else 0) := rfl
            refine lv_aload_n C.1 C.2.1 dX9_learn_71 rfl (lv_at hl 3 rfl) ?_
            refine lv_iload_n C.1 C.2.1 dX9_learn_72 rfl (lv_at hl 2 rfl) ?_
            refine lv_iload_n C.1 C.2.1 dX9_learn_73 rfl (lv_at hl 1 rfl) ?_
            refine lv_iconst (v := zI 1) C.1 C.2.1 dX9_learn_74 (by decide) ?_
            refine y_iaddN C (a := (tb i) + 3) (b := 1) dX9_learn_75 ?_
            refine lv_iload_n C.1 C.2.1 dX9_learn_76 rfl (lv_at hl 0 rfl) ?_
            refine z_callS C (As := [.ref (ad 3), zN i, zN (((tb i) + 3) + 1), zN (((tb i) + 3) + (nL F tb i))]) (rest := []) (c_X9_learnMethod l Z hM hB (fp := tb i + 3) (ln := nL F tb i) (by omega) (by omega) (by rw [if_pos (by omega)] at hz0; omega) (k := i) (by omega) ((hA.2 i (by omega) (by omega)).1) ((hA.2 i (by omega) (by omega)).2)) ⟨⟨zw_12_12, zw_11_16, zw_12_10⟩, zd_X9_learnMethod⟩ zw_12_11 ⟨Nat.le_of_ble_eq_true rfl, Nat.le_of_ble_eq_true rfl⟩ ⟨rfl, rfl⟩ rfl hl.1 rfl (Nat.le_of_ble_eq_true rfl) dX9_learn_77 ⟨Nat.zero_le _, Nat.zero_le _⟩ hS (fun _ h => h) (fun v H locs hp hS _ _ => ?_)
            obtain ⟨rfl, τ2, hM, hT⟩ := hp
            refine lv_iinc (v := zI ((i + 1 : Nat) : Int)) (lv' := [(1, zN (i + 1)), (3, zN (((tb i) + 3) + (nL F tb i))), (2, zN ((tb i) + 3)), (0, .ref (ad 3))]) C.1 C.2.1 dX9_learn_80 hl (k := 2) rfl (zI_add _ _) (by decide) rfl (fun ls hl => ?_)
            refine lv_goto (tgt := 2) C.1 C.2.1 dX9_learn_83 (by decide) ?_
            exact ih_loop (i + 1) _ _ ls _ hS hM (by omega) (((chg_sf (by decide) hc).tr (hT.1.mono (by decide) (by decide)))) (by first | exact hB | exact hB.chg hT.1 (by decide) (by decide)) (by first | exact hP | exact hP.chg hT.1 (by decide) (by decide)) (hA.st rfl hT) (lv_sub hl [0, 3] rfl)
  exact loop (pc + 1) 1 _ _ ls _ hS hM (by omega) chg.rf hB hP hA hl
