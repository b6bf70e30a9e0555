/-! the component: all rules -/
/-- all that a file which keeps every rule leaves in its image -/
def cAll (τ : mS) (F : Nat → Nat) (n : Nat) (tb : Nat → Nat) (cl nf nm : Nat) (mt : Nat → Nat) (fa last : Nat) : Prop :=
  cLay τ F tb cl nf nm mt fa last ∧ (∀ i, i < nm → bdV F (cP F tb mt nf i) τ i ∧ τ.2.1 23 i = zI (paN F tb (U2 F (mt (nf + i) + 4)) : Int) ∧ cR F tb mt nf τ i) ∧ ∀ k, 1 ≤ k → k < U2 F 8 → τ.2.1 10 k = zI (mbC F tb mt cl nf nm k)
def AX : List Nat := [1, 2, 3, 4, 5, 6]
def AE : List Nat := [1, 2, 3, 4, 5, 6, 8, 9]
def AF : List Nat := [4, 5, 6, 7, 8, 9, 10, 11, 12, 14, 20, 21, 22, 23, 24, 25, 26, 27, 28, 29]

theorem xFileE {F : Nat → Nat} {n : Nat} {e : E2} (h : xLay F n = .error e) : xFile F n = some e := by unfold xFile; rw [h]
theorem x15f_b {F tb mt : Nat → Nat} {n cl nf nm fa last q : Nat} (hp : pLay F n tb cl nf nm mt fa last) (h12 : x12 F tb mt nf (nf + nm) = none) (hb : ∀ i, i < nm → bOk F (cP F tb mt nf i)) (h : fst1 (x15f F tb mt nf) nm 0 = some q) : q ≤ n := by
  obtain ⟨j, -, b, e⟩ := fst1_q _ _ h
  have c := cP_in hp h12 (i := j) (by omega)
  obtain ⟨b1, b2, b3, b4, b5, b6, b7⟩ := hb j (by omega)
  exact x15_b e (by omega)
theorem x16f_b {F tb mt : Nat → Nat} {n cl nf nm fa last q : Nat} (hp : pLay F n tb cl nf nm mt fa last) (hn : n ≤ 16000) (h12 : x12 F tb mt nf (nf + nm) = none) (hb : ∀ i, i < nm → bOk F (cP F tb mt nf i)) (h15 : fst1 (x15f F tb mt nf) nm 0 = none) (h : fst1 (x16f F tb mt cl nf nm) nm 0 = some q) : q ≤ n := by
  obtain ⟨j, -, b, e⟩ := fst1_q _ _ h
  have c := cP_in hp h12 (i := j) (by omega)
  obtain ⟨b1, b2, b3, b4, b5, b6, b7⟩ := hb j (by omega)
  have w := isWh_of (fst1_none _ _ h15 j (Nat.zero_le _) (by omega))
  unfold x16f x16 at e
  cases e1 : fst1 (g16 F tb mt cl nf nm (cP F tb mt nf j + 14) (cS F (cP F tb mt nf j)) (U2 F (cP F tb mt nf j + 8)) (nWf F tb mt nf j)) (nWf F tb mt nf j) 0 with
  | some r =>
    rw [e1] at e; cases e
    obtain ⟨i, -, i2, i3⟩ := fst1_q _ _ e1
    have i2 : i < nWh F (cP F tb mt nf j + 14) (cS F (cP F tb mt nf j)) := by have : nWf F tb mt nf j = nWh F (cP F tb mt nf j + 14) (cS F (cP F tb mt nf j)) := rfl; omega
    have := (w.2 i i2).1
    unfold g16 at i3
    split at i3
    · cases i3
    · cases i3; omega
  | none =>
    rw [e1] at e
    exact ctR_b e (by omega)

set_option maxHeartbeats 4000000 in
set_option maxRecDepth 20000 in
theorem c_X11_keepsAllRules (l : Launch) (Z : zT) {H : Heap} {ad : Nat → Nat} {τ : mS} {X : List (Nat × va_E)} (hM : isC Z H ad τ X) {F : Nat → Nat} {n : Nat} (hB : cSrc τ F n) {o : Nat} {fs : List Value} (hO : (o, .inr (7, .ref (ad 15) :: fs)) ∈ X) {h0 : Nat} (hh0 : h0 ≤ H.size) : zM l Z yX11_keepsAllRules cX11_keepsAllRules 2 (some .boolean) { rmk 10 with cells := 25, slots := 100 } [.ref o, .ref (ad 0)] H (kA ad h0) 25 100 (fun v H' => (∃ tb cl nf nm mt fa last, xLay F n = .ok (tb, cl, nf, nm, mt, fa, last) ∧ xFile F n = none ∧ v = some (zV 1) ∧ ∃ τ' : mS, isC Z H' ad τ' X ∧ chg AX AF τ τ' ∧ cAll τ' F n tb cl nf nm mt fa last) ∨ (∃ r w, xFile F n = some (r, w) ∧ v = some (zV 0) ∧ gE Z H' ad X τ AE AF r w)) := by
  have hn := hB.2.2.2
  refine zM.introI (own := RX11) ⟨by decide, rfl⟩ (Nat.le_of_ble_eq_true rfl) ?_
  intro p e s m args below meth c Q ls hH C hl hret
  have hS : va_S (kA ad h0) s.heap H [] := by rw [hH]; exact va_S.rf
  have hl : lv_has ls 2 [(0, .ref o), (1, .ref (ad 0))] := hl
  refine lv_aload_n C.1 C.2.1 dX11_keepsAllRules_0 rfl (lv_at hl 1 rfl) ?_
  refine lv_aload_n C.1 C.2.1 dX11_keepsAllRules_1 rfl (lv_at hl 0 rfl) ?_
  refine z_get C (v := .ref (ad 15)) (hM.ex' hO) rfl bi_wsX110 0 (by decide) zw_1_15 rfl rfl dX11_keepsAllRules_2 ?_
  refine z_callS C (As := [.ref (ad 0), .ref (ad 15)]) (rest := []) (c_X4_keeps l Z hM hB (h0 := h0) hh0) ⟨⟨zw_8_0, zw_7_23, zw_7_21⟩, zd_X4_keeps⟩ zw_7_22 ⟨Nat.le_of_ble_eq_true rfl, Nat.le_of_ble_eq_true rfl⟩ ⟨rfl, rfl⟩ rfl hl.1 rfl (Nat.le_of_ble_eq_true rfl) dX11_keepsAllRules_5 ⟨Nat.le_of_ble_eq_true rfl, Nat.le_of_ble_eq_true rfl⟩ hS (fun _ h => h) (fun v H locs hp_ hS hsz _ => ?_)
  have hh : h0 ≤ H.size := by omega
  rcases hp_ with ⟨tb, cl, nf, nm, mt, fa, last, eL, rfl, τ1, hM, hc1, hL⟩ | ⟨r1, w1, eL, rfl, τ1, hM, hc1, g8, g9⟩
  · have hB := hB.chg hc1 (by decide) (by decide)
    have hp := (xLay_p eL).1
    obtain ⟨p1, p2, p3, p4, p5, p6, p7, p8, p9, p10, p11, p12⟩ := id hp
    refine y_if_eq (tgt := 66) C (a := 1) dX11_keepsAllRules_8 (by decide) (by omega) (fun h8 => ?_) (fun h8 => ?_)
    · exact False.elim (by first | omega | exact h8 rfl)
    · refine lv_aload_n C.1 C.2.1 dX11_keepsAllRules_11 rfl (lv_at hl 0 rfl) ?_
      refine lv_aload_n C.1 C.2.1 dX11_keepsAllRules_12 rfl (lv_at hl 1 rfl) ?_
      refine z_callV C (As := [.ref (ad 0)]) (rest := []) (c_X11_keepsNameRules l Z hM hB hL hp hO) (hM.ex' hO) rfl ⟨⟨zw_13_5, zw_1_2, zw_13_2⟩, zd_X11_keepsNameRules⟩ zw_13_3 zw_13_4 ⟨Nat.le_of_ble_eq_true rfl, Nat.le_of_ble_eq_true rfl⟩ ⟨rfl, rfl⟩ rfl hl.1 rfl (Nat.le_of_ble_eq_true rfl) dX11_keepsAllRules_13 ⟨Nat.le_of_ble_eq_true rfl, Nat.le_of_ble_eq_true rfl⟩ hS (fun _ h => Or.inl h) (fun v H locs hp_ hS hsz _ => ?_)
      have hh : h0 ≤ H.size := by omega
      rcases hp_ with ⟨ho6, ho7, ho8, ho9, ho10, ho11, ho12, ho17, rfl, τ2, hM, hc2, h20⟩ | ⟨r2, w2, eR, rfl, τ2, hM, hc2, g8, g9⟩
      · have hB := hB.chg hc2 (by decide) (by decide)
        have hL := hL.chg hc2 (by decide) (by decide)
        refine y_if_eq (tgt := 66) C (a := 1) dX11_keepsAllRules_16 (by decide) (by omega) (fun h16 => ?_) (fun h16 => ?_)
        · exact False.elim (by first | omega | exact h16 rfl)
        · refine lv_aload_n C.1 C.2.1 dX11_keepsAllRules_19 rfl (lv_at hl 1 rfl) ?_
          refine lv_aload_n C.1 C.2.1 dX11_keepsAllRules_20 rfl (lv_at hl 0 rfl) ?_
          refine z_get C (v := .ref (ad 15)) (hM.ex' hO) rfl bi_wsX110 0 (by decide) zw_1_15 rfl rfl dX11_keepsAllRules_21 ?_
          refine z_callS C (As := [.ref (ad 0), .ref (ad 15)]) (rest := []) (c_X4_keepsInBodies l Z hM hB hL hp ho6 ho9 ho10 ho12 h20 (h0 := h0) hh) ⟨⟨zw_19_6, zw_7_23, zw_19_4⟩, zd_X4_keepsInBodies⟩ zw_19_5 ⟨Nat.le_of_ble_eq_true rfl, Nat.le_of_ble_eq_true rfl⟩ ⟨rfl, rfl⟩ rfl hl.1 rfl (Nat.le_of_ble_eq_true rfl) dX11_keepsAllRules_24 ⟨Nat.le_of_ble_eq_true rfl, Nat.le_of_ble_eq_true rfl⟩ hS (fun _ h => h) (fun v H locs hp_ hS hsz _ => ?_)
          have hh : h0 ≤ H.size := by omega
          rcases hp_ with ⟨e13, rfl, τ3, hM, hc3, hbd⟩ | ⟨r3, w3, e13, rfl, τ3, hM, hc3, g8, g9⟩
          · have hB := hB.chg hc3 (by decide) (by decide)
            have hL := hL.chg hc3 (by decide) (by decide)
            have hbo : ∀ i, i < nm → bOk F (cP F tb mt nf i) := fun i hi => x13_b hB.1 e13 ho10 hi
            refine y_if_eq (tgt := 66) C (a := 1) dX11_keepsAllRules_27 (by decide) (by omega) (fun h27 => ?_) (fun h27 => ?_)
            · exact False.elim (by first | omega | exact h27 rfl)
            · refine lv_aload_n C.1 C.2.1 dX11_keepsAllRules_30 rfl (lv_at hl 0 rfl) ?_
              refine z_get C (v := .ref (ad 15)) (hM.ex' hO) rfl bi_wsX110 0 (by decide) zw_1_15 rfl rfl dX11_keepsAllRules_31 ?_
              refine lv_bipush (v := zI 15) C.1 C.2.1 dX11_keepsAllRules_34 (by decide) ?_
              refine lv_aload_n C.1 C.2.1 dX11_keepsAllRules_36 rfl (lv_at hl 1 rfl) ?_
              refine z_callS C (As := [.ref (ad 0)]) (rest := [zN 15, .ref (ad 15)]) (c_X5_wrongInstruction l Z hM hB hL hp ho12 hbo (fun i hi => (hbd i hi).1)) ⟨⟨zw_20_7, zw_20_6, zw_20_4⟩, zd_X5_wrongInstruction⟩ zw_20_5 ⟨Nat.le_of_ble_eq_true rfl, Nat.le_of_ble_eq_true rfl⟩ ⟨rfl, rfl⟩ rfl hl.1 rfl (Nat.le_of_ble_eq_true rfl) dX11_keepsAllRules_37 ⟨Nat.le_of_ble_eq_true rfl, Nat.le_of_ble_eq_true rfl⟩ hS (fun _ h => Or.inl h) (fun v H locs hp_ hS hsz _ => ?_)
              have hh : h0 ≤ H.size := by omega
              obtain ⟨rfl, τ4, hM, hc4, hcr⟩ := hp_
              rcases oI_c (fst1 (x15f F tb mt nf) nm 0) with ho15 | ⟨q15, ho15⟩
              · refine z_re (y := zI (-1)) (by rw [ho15]; rfl) ?_
                have hB := hB.chg hc4 (by decide) (by decide)
                have hL := hL.chg hc4 (by decide) (by decide)
                refine z_callV C (As := [zN 15, zV (-1)]) (rest := []) (c_X10_keeps l Z hM (zI 15) (-1) (by omega)) hM.ver rfl ⟨⟨zw_14_2, zw_1_14, zw_13_23⟩, zd_X10_keeps⟩ zw_14_0 zw_14_1 ⟨Nat.le_of_ble_eq_true rfl, Nat.le_of_ble_eq_true rfl⟩ ⟨rfl, rfl⟩ rfl hl.1 rfl (Nat.le_of_ble_eq_true rfl) dX11_keepsAllRules_40 ⟨Nat.le_of_ble_eq_true rfl, Nat.le_of_ble_eq_true rfl⟩ hS (fun _ h => Or.inl h) (fun v H locs hp_ hS _ _ => ?_)
                obtain ⟨kp1, kp2⟩ := hp_
                obtain ⟨rfl, hM⟩ := kp1 rfl
                refine y_if_eq (tgt := 66) C (a := 1) dX11_keepsAllRules_43 (by decide) (by omega) (fun h43 => ?_) (fun h43 => ?_)
                · exact False.elim (by first | omega | exact h43 rfl)
                · refine lv_aload_n C.1 C.2.1 dX11_keepsAllRules_46 rfl (lv_at hl 0 rfl) ?_
                  refine z_get C (v := .ref (ad 15)) (hM.ex' hO) rfl bi_wsX110 0 (by decide) zw_1_15 rfl rfl dX11_keepsAllRules_47 ?_
                  refine lv_bipush (v := zI 16) C.1 C.2.1 dX11_keepsAllRules_50 (by decide) ?_
                  refine lv_aload_n C.1 C.2.1 dX11_keepsAllRules_52 rfl (lv_at hl 1 rfl) ?_
                  refine z_callS C (As := [.ref (ad 0)]) (rest := [zN 16, .ref (ad 15)]) (c_X5_wrongLink l Z hM hB hL hp ho6 ho9 ho8 ho11 ho12 hbo (fun i hi => ((hbd i hi).1).chg hc4 (by decide)) (hcr ho15) ho15) ⟨⟨zw_21_18, zw_20_6, zw_21_16⟩, zd_X5_wrongLink⟩ zw_21_17 ⟨Nat.le_of_ble_eq_true rfl, Nat.le_of_ble_eq_true rfl⟩ ⟨rfl, rfl⟩ rfl hl.1 rfl (Nat.le_of_ble_eq_true rfl) dX11_keepsAllRules_53 ⟨Nat.le_of_ble_eq_true rfl, Nat.le_of_ble_eq_true rfl⟩ hS (fun _ h => Or.inl h) (fun v H locs hp_ hS hsz _ => ?_)
                  have hh : h0 ≤ H.size := by omega
                  obtain ⟨rfl, τ5, hM, hc5, hmb⟩ := hp_
                  rcases oI_c (fst1 (x16f F tb mt cl nf nm) nm 0) with ho16 | ⟨q16, ho16⟩
                  · refine z_re (y := zI (-1)) (by rw [ho16]; rfl) ?_
                    have hL := hL.chg hc5 (by decide) (by decide)
                    refine z_callV C (As := [zN 16, zV (-1)]) (rest := []) (c_X10_keeps l Z hM (zI 16) (-1) (by omega)) hM.ver rfl ⟨⟨zw_14_2, zw_1_14, zw_13_23⟩, zd_X10_keeps⟩ zw_14_0 zw_14_1 ⟨Nat.le_of_ble_eq_true rfl, Nat.le_of_ble_eq_true rfl⟩ ⟨rfl, rfl⟩ rfl hl.1 rfl (Nat.le_of_ble_eq_true rfl) dX11_keepsAllRules_56 ⟨Nat.le_of_ble_eq_true rfl, Nat.le_of_ble_eq_true rfl⟩ hS (fun _ h => Or.inl h) (fun v H locs hp_ hS _ _ => ?_)
                    obtain ⟨kp1, kp2⟩ := hp_
                    obtain ⟨rfl, hM⟩ := kp1 rfl
                    refine y_if_eq (tgt := 66) C (a := 1) dX11_keepsAllRules_59 (by decide) (by omega) (fun h59 => ?_) (fun h59 => ?_)
                    · exact False.elim (by first | omega | exact h59 rfl)
                    · refine lv_iconst (v := zI 1) C.1 C.2.1 dX11_keepsAllRules_62 (by decide) ?_
                      refine lv_goto (tgt := 67) C.1 C.2.1 dX11_keepsAllRules_63 (by decide) ?_
                      refine W.widen (k := 25) (n := 100) (Nat.le_of_ble_eq_true rfl) (Nat.le_of_ble_eq_true rfl) ?_
                      exact hret _ _ _ _ (zI 1) hS (Or.inl ⟨tb, cl, nf, nm, mt, fa, last, eL, (by rw [xFile_ok eL]; unfold xRest xR5; rw [ho6, ho7, ho8, ho9, ho10, ho11, ho12, if_pos ho17]; unfold xR6; rw [e13, ho15, ho16]; rfl), rfl, τ5, hM, ((((((hc1.mono (by decide) (by decide)).tr (hc2.mono (by decide) (by decide))).tr (hc3.mono (by decide) (by decide))).tr (hc4.mono (by decide) (by decide))).tr (hc5.mono (by decide) (by decide)))), hL, (fun i hi => ⟨(((hbd i hi).1).chg hc4 (by decide)).chg hc5 (by decide), (congrFun (hc5.2.1 23 (by decide)) i).trans ((congrFun (hc4.2.1 23 (by decide)) i).trans (hbd i hi).2), (hcr ho15 i hi).chg hc5 (by decide)⟩), hmb⟩) rfl dX11_keepsAllRules_67
                  · refine z_re (y := zI ((q16 : Nat) : Int)) (by rw [ho16]; rfl) ?_
                    have hob16 : q16 ≤ n := x16f_b hp hn ho12 hbo ho15 ho16
                    refine z_callV C (As := [zN 16, zN q16]) (rest := []) (c_X10_keeps l Z hM (zI 16) (((q16 : Nat) : Int)) (by omega)) hM.ver rfl ⟨⟨zw_14_2, zw_1_14, zw_13_23⟩, zd_X10_keeps⟩ zw_14_0 zw_14_1 ⟨Nat.le_of_ble_eq_true rfl, Nat.le_of_ble_eq_true rfl⟩ ⟨rfl, rfl⟩ rfl hl.1 rfl (Nat.le_of_ble_eq_true rfl) dX11_keepsAllRules_56 ⟨Nat.le_of_ble_eq_true rfl, Nat.le_of_ble_eq_true rfl⟩ hS (fun _ h => Or.inl h) (fun v H locs hp_ hS _ _ => ?_)
                    obtain ⟨kp1, kp2⟩ := hp_
                    obtain ⟨rfl, hM⟩ := kp2 (by omega)
                    refine y_if_eq (tgt := 66) C (a := 0) dX11_keepsAllRules_59 (by decide) (by omega) (fun h59 => ?_) (fun h59 => ?_)
                    · refine lv_iconst (v := zI 0) C.1 C.2.1 dX11_keepsAllRules_66 (by decide) ?_
                      refine W.widen (k := 25) (n := 100) (Nat.le_of_ble_eq_true rfl) (Nat.le_of_ble_eq_true rfl) ?_
                      exact hret _ _ _ _ (zI 0) hS (Or.inr ⟨_, _, (by rw [xFile_ok eL]; unfold xRest xR5; rw [ho6, ho7, ho8, ho9, ho10, ho11, ho12, if_pos ho17]; unfold xR6; rw [e13, ho15, ho16]; rfl), rfl, _, hM, (chg_sx (by decide) (chg_sx (by decide) (((((hc1.mono (by decide) (by decide)).tr (hc2.mono (by decide) (by decide))).tr (hc3.mono (by decide) (by decide))).tr (hc4.mono (by decide) (by decide))).tr (hc5.mono (by decide) (by decide))))), rfl, rfl⟩) rfl dX11_keepsAllRules_67
                    · exact False.elim (by first | omega | exact h59 rfl)
              · refine z_re (y := zI ((q15 : Nat) : Int)) (by rw [ho15]; rfl) ?_
                have hob15 : q15 ≤ n := x15f_b hp ho12 hbo ho15
                have hB := hB.chg hc4 (by decide) (by decide)
                have hL := hL.chg hc4 (by decide) (by decide)
                refine z_callV C (As := [zN 15, zN q15]) (rest := []) (c_X10_keeps l Z hM (zI 15) (((q15 : Nat) : Int)) (by omega)) hM.ver rfl ⟨⟨zw_14_2, zw_1_14, zw_13_23⟩, zd_X10_keeps⟩ zw_14_0 zw_14_1 ⟨Nat.le_of_ble_eq_true rfl, Nat.le_of_ble_eq_true rfl⟩ ⟨rfl, rfl⟩ rfl hl.1 rfl (Nat.le_of_ble_eq_true rfl) dX11_keepsAllRules_40 ⟨Nat.le_of_ble_eq_true rfl, Nat.le_of_ble_eq_true rfl⟩ hS (fun _ h => Or.inl h) (fun v H locs hp_ hS _ _ => ?_)
                obtain ⟨kp1, kp2⟩ := hp_
                obtain ⟨rfl, hM⟩ := kp2 (by omega)
                refine y_if_eq (tgt := 66) C (a := 0) dX11_keepsAllRules_43 (by decide) (by omega) (fun h43 => ?_) (fun h43 => ?_)
                · refine lv_iconst (v := zI 0) C.1 C.2.1 dX11_keepsAllRules_66 (by decide) ?_
                  refine W.widen (k := 25) (n := 100) (Nat.le_of_ble_eq_true rfl) (Nat.le_of_ble_eq_true rfl) ?_
                  exact hret _ _ _ _ (zI 0) hS (Or.inr ⟨_, _, (by rw [xFile_ok eL]; unfold xRest xR5; rw [ho6, ho7, ho8, ho9, ho10, ho11, ho12, if_pos ho17]; unfold xR6; rw [e13, ho15]; rfl), rfl, _, hM, (chg_sx (by decide) (chg_sx (by decide) ((((hc1.mono (by decide) (by decide)).tr (hc2.mono (by decide) (by decide))).tr (hc3.mono (by decide) (by decide))).tr (hc4.mono (by decide) (by decide))))), rfl, rfl⟩) rfl dX11_keepsAllRules_67
                · exact False.elim (by first | omega | exact h43 rfl)
          · skip
            refine y_if_eq (tgt := 66) C (a := 0) dX11_keepsAllRules_27 (by decide) (by omega) (fun h27 => ?_) (fun h27 => ?_)
            · refine lv_iconst (v := zI 0) C.1 C.2.1 dX11_keepsAllRules_66 (by decide) ?_
              refine W.widen (k := 25) (n := 100) (Nat.le_of_ble_eq_true rfl) (Nat.le_of_ble_eq_true rfl) ?_
              exact hret _ _ _ _ (zI 0) hS (Or.inr ⟨_, _, (by rw [xFile_ok eL]; unfold xRest xR5; rw [ho6, ho7, ho8, ho9, ho10, ho11, ho12, if_pos ho17]; unfold xR6; rw [e13]; rfl), rfl, _, hM, ((((hc1.mono (by decide) (by decide)).tr (hc2.mono (by decide) (by decide))).tr (hc3.mono (by decide) (by decide)))), g8, g9⟩) rfl dX11_keepsAllRules_67
            · exact False.elim (by first | omega | exact h27 rfl)
      · skip
        refine y_if_eq (tgt := 66) C (a := 0) dX11_keepsAllRules_16 (by decide) (by omega) (fun h16 => ?_) (fun h16 => ?_)
        · refine lv_iconst (v := zI 0) C.1 C.2.1 dX11_keepsAllRules_66 (by decide) ?_
          refine W.widen (k := 25) (n := 100) (Nat.le_of_ble_eq_true rfl) (Nat.le_of_ble_eq_true rfl) ?_
          exact hret _ _ _ _ (zI 0) hS (Or.inr ⟨_, _, (by rw [xFile_ok eL]; exact eR), rfl, _, hM, (((hc1.mono (by decide) (by decide)).tr (hc2.mono (by decide) (by decide)))), g8, g9⟩) rfl dX11_keepsAllRules_67
        · exact False.elim (by first | omega | exact h16 rfl)
  · skip
    refine y_if_eq (tgt := 66) C (a := 0) dX11_keepsAllRules_8 (by decide) (by omega) (fun h8 => ?_) (fun h8 => ?_)
    · refine lv_iconst (v := zI 0) C.1 C.2.1 dX11_keepsAllRules_66 (by decide) ?_
      refine W.widen (k := 25) (n := 100) (Nat.le_of_ble_eq_true rfl) (Nat.le_of_ble_eq_true rfl) ?_
      exact hret _ _ _ _ (zI 0) hS (Or.inr ⟨_, _, xFileE eL, rfl, _, hM, ((hc1.mono (by decide) (by decide))), g8, g9⟩) rfl dX11_keepsAllRules_67
    · exact False.elim (by first | omega | exact h8 rfl)
