/-! the component: rule 16 over all methods; rules 6 to 12 and 17 in their order -/
theorem cMt_of {τ : mS} {F tb mt : Nat → Nat} {n cl nf nm fa last i : Nat} (hp : pLay F n tb cl nf nm mt fa last) (hn : n ≤ 16000) (h12 : x12 F tb mt nf (nf + nm) = none) (hb : ∀ i, i < nm → bOk F (cP F tb mt nf i)) (h15 : fst1 (x15f F tb mt nf) nm 0 = none) (hv : bdV F (cP F tb mt nf i) τ i) (hr : cR F tb mt nf τ i) (hi : i < nm) :
    cMt τ F n (cP F tb mt nf i + 14) (cS F (cP F tb mt nf i)) (U2 F (cP F tb mt nf i + 8)) (cH F (cP F tb mt nf i)) (cN F (cP F tb mt nf i)) (nB F tb mt nf i) (nWf F tb mt nf i) i := by
  obtain ⟨b1, b2, b3, b4, b5, b6, b7⟩ := hb i hi
  have c := cP_in hp h12 hi
  have e : ∀ j, j < nm → x15f F tb mt nf j = none := fun j hj => fst1_none _ _ h15 j (Nat.zero_le _) (by omega)
  have d := nBle hp h12 hb i hi (fun j hj => e j (by omega))
  have f := nWh_le (e i hi)
  have f' : nWf F tb mt nf i ≤ cS F (cP F tb mt nf i) := f
  have p8 := hp.2.2.2.2.2.2.2.1
  exact ⟨by omega, by omega, b2, isWh_of (e i hi), by omega, b4, hv.2.1, hv.2.2.1, hv.2.2.2.1, hv.2.2.2.2.1, hv.2.2.2.2.2, hr.1, hr.2.1, hr.2.2⟩
theorem bdV.chg {F : Nat → Nat} {a m : Nat} {τ τ' : mS} {xs fs : List Nat} (h : bdV F a τ m) (hc : chg xs fs τ τ') (hf : 21 ∉ fs ∧ 22 ∉ fs ∧ 24 ∉ fs ∧ 25 ∉ fs ∧ 26 ∉ fs ∧ 27 ∉ fs) : bdV F a τ' m := by
  unfold bdV
  rw [hc.2.1 21 hf.1, hc.2.1 22 hf.2.1, hc.2.1 24 hf.2.2.1, hc.2.1 25 hf.2.2.2.1, hc.2.1 26 hf.2.2.2.2.1, hc.2.1 27 hf.2.2.2.2.2]
  exact h
theorem cR.chg {F tb mt : Nat → Nat} {nf i : Nat} {τ τ' : mS} {xs fs : List Nat} (h : cR F tb mt nf τ i) (hc : chg xs fs τ τ') (hf : 14 ∉ fs ∧ 28 ∉ fs ∧ 29 ∉ fs) : cR F tb mt nf τ' i := by
  unfold cR
  rw [hc.2.1 14 hf.1, hc.2.1 28 hf.2.1, hc.2.1 29 hf.2.2]
  exact h
theorem cLay.chg {τ τ' : mS} {F tb mt : Nat → Nat} {cl nf nm fa last : Nat} {xs fs : List Nat} (h : cLay τ F tb cl nf nm mt fa last) (hc : chg xs fs τ τ') (hx : 1 ∉ xs ∧ 2 ∉ xs ∧ 3 ∉ xs ∧ 4 ∉ xs ∧ 5 ∉ xs ∧ 6 ∉ xs) (hf : 4 ∉ fs ∧ 5 ∉ fs ∧ 6 ∉ fs ∧ 7 ∉ fs ∧ 8 ∉ fs ∧ 9 ∉ fs ∧ 11 ∉ fs ∧ 12 ∉ fs) : cLay τ' F tb cl nf nm mt fa last := by
  obtain ⟨a1, a2, a3, a4, a5, a6, a7, a8, a9⟩ := h
  refine ⟨a1.chg hc hx.1 ⟨hf.1, hf.2.1, hf.2.2.1⟩, a2.chg hc ⟨hf.2.2.2.1, hf.2.2.2.2.1, hf.2.2.2.2.2.1⟩, ?_, ?_, ?_, ?_, ?_, ?_, ?_⟩
  · rw [hc.1 2 hx.2.1]; exact a3
  · rw [hc.1 3 hx.2.2.1]; exact a4
  · rw [hc.1 4 hx.2.2.2.1]; exact a5
  · rw [hc.1 5 hx.2.2.2.2.1]; exact a6
  · rw [hc.1 6 hx.2.2.2.2.2]; exact a7
  · rw [hc.2.1 11 hf.2.2.2.2.2.2.1]; exact a8
  · rw [hc.2.1 12 hf.2.2.2.2.2.2.2]; exact a9

theorem g16_b {τ : mS} {F tb mt : Nat → Nat} {cl nf nm n ca sz ml ch cn f0 N bm q : Nat} (h : fst1 (g16 F tb mt cl nf nm ca sz ml N) N 0 = some q) (hm : cMt τ F n ca sz ml ch cn f0 N bm) (hn : n ≤ 16000) : q ≤ n := by
  obtain ⟨j, -, b, e⟩ := fst1_q _ _ h
  have := (hm.2.2.2.1.2 j (by omega)).1
  have := hm.2.1
  unfold g16 at e
  split at e
  · cases e
  · cases e; omega
theorem ctR_b {F tb : Nat → Nat} {pc sz ch cn n q : Nat} {na : Nat → Int} (h : fst1 (fun k => ctR F tb pc sz na (ch + 8 * k)) cn 0 = some q) (hn : ch + 8 * cn ≤ n) : q ≤ n := by
  obtain ⟨j, -, b, e⟩ := fst1_q _ _ h
  have e : ctR F tb pc sz na (ch + 8 * j) = some q := e
  have e2 := ctR_s (F := F) (tb := tb) (pc := pc) (sz := sz) (na := na) (q := ch + 8 * j) (by rw [e]; rfl)
  rw [e] at e2
  cases e2
  omega

set_option maxHeartbeats 4000000 in
set_option maxRecDepth 20000 in
theorem c_X5_wrongLink (l : Launch) (Z : zT) {H : Heap} {ad : Nat → Nat} {τ : mS} {X : List (Nat × va_E)} (hM : isC Z H ad τ X) {F : Nat → Nat} {n : Nat} (hB : cSrc τ F n) {tb mt : Nat → Nat} {cl nf nm fa last : Nat} (hL : cLay τ F tb cl nf nm mt fa last) (hp : pLay F n tb cl nf nm mt fa last) (hx6 : x6 F tb (U2 F 8) = none) (hx9 : x9 F tb (U2 F 8) mt (nf + nm) fa = none) (hx8 : x8 F tb (U2 F 8) cl = none) (hx11 : x11 F tb mt nf (nf + nm) = none) (hx12 : x12 F tb mt nf (nf + nm) = none) (hbo : ∀ i, i < nm → bOk F (cP F tb mt nf i)) (hbv : ∀ i, i < nm → bdV F (cP F tb mt nf i) τ i) (hcr : ∀ i, i < nm → cR F tb mt nf τ i) (hx15 : fst1 (x15f F tb mt nf) nm 0 = none) : zM l Z yX5_wrongLink cX5_wrongLink 4 (some .int) (rmk 9) [.ref (ad 0)] H (cA ad) 0 0 (fun v H' => v = some (zV (oI (fst1 (x16f F tb mt cl nf nm) nm 0))) ∧ ∃ τ' : mS, isC Z H' ad τ' X ∧ chg [] [10] τ τ' ∧ ∀ k, 1 ≤ k → k < U2 F 8 → τ'.2.1 10 k = zI (mbC F tb mt cl nf nm k)) := by
  have hn := hB.2.2.2
  have hP := hL.1
  obtain ⟨p1, p2, p3, p4, p5, p6, p7, p8, p9, p10, p11, p12⟩ := id hp
  obtain ⟨q1, q2, q3, q4, q5, q6, q7, q8, q9⟩ := id hL
  refine zM.introI (own := RX5) ⟨by decide, rfl⟩ (Nat.le_of_ble_eq_true rfl) ?_
  intro p e s m args below meth c Q ls hH C hl hret
  have hS : va_S (cA ad) s.heap H [] := by rw [hH]; exact va_S.rf
  have hl : lv_has ls 4 [(0, .ref (ad 0))] := hl
  refine lv_aload_n C.1 C.2.1 dX5_wrongLink_0 rfl (lv_at hl 0 rfl) ?_
  refine z_callS C (As := [.ref (ad 0)]) (rest := []) (c_X5_findMembers l Z hM hB hL hp hx6 hx9 hx8 hx11) ⟨⟨zw_21_21, zw_20_6, zw_21_19⟩, zd_X5_findMembers⟩ zw_21_20 ⟨Nat.le_of_ble_eq_true rfl, Nat.le_of_ble_eq_true rfl⟩ ⟨rfl, rfl⟩ rfl hl.1 rfl (Nat.le_of_ble_eq_true rfl) dX5_wrongLink_1 ⟨Nat.zero_le _, Nat.zero_le _⟩ hS (fun _ h => h) (fun v H locs hp_ hS _ _ => ?_)
  obtain ⟨rfl, τ2, hM, hc2, hmb⟩ := hp_
  have hB := hB.chg hc2 (by decide) (by decide)
  have hL := hL.chg hc2 (by decide) (by decide)
  have hP := hL.1
  refine lv_iconst (v := zI 0) C.1 C.2.1 dX5_wrongLink_4 (by decide) ?_
  refine lv_istore_n (lv' := [(1, zN 0), (0, .ref (ad 0))]) C.1 C.2.1 dX5_wrongLink_5 rfl hl (by decide) rfl (fun ls hl => ?_)
  have loop : ∀ (fu : Nat) (i : Nat) (ls : Array Slot) (locs : List Loc), va_S (cA ad) s.heap H locs → (i ≤ nm ∧ nm < i + fu) → (fst1 (x16f F tb mt cl nf nm) (nm - i) i = fst1 (x16f F tb mt cl nf nm) nm 0) → lv_has ls 4 [(1, zN i), (0, .ref (ad 0))] → W p l e (rmk 9) s m args below meth c H locs 0 0 Q (F0 m 6 ls []) := by
    intro fu
    induction fu with
    | zero =>
      intro i ls locs hS hi he hl
      (exact absurd hi.2 (by omega))
    | succ fu ih_loop =>
      intro i ls locs hS hi he hl
      refine lv_iload_n C.1 C.2.1 dX5_wrongLink_6 rfl (lv_at hl 0 rfl) ?_
      refine lv_aload_n C.1 C.2.1 dX5_wrongLink_7 rfl (lv_at hl 1 rfl) ?_
      refine z_get C (v := .int (τ2.1 3)) hM.img rfl bi_wsX20 7 (by decide) zw_20_8 rfl rfl dX5_wrongLink_8 ?_
      refine z_re (y := zI ((nm : Nat) : Int)) hL.2.2.2.1 ?_
      refine y_icmp_ge (tgt := 63) C (a := ((i : Nat) : Int)) (b := ((nm : Nat) : Int)) dX5_wrongLink_11 (by decide) (by omega) (fun h11 => ?_) (fun h11 => ?_)
      · refine lv_iconst (v := zI (-1)) C.1 C.2.1 dX5_wrongLink_63 (by decide) ?_
        exact hret _ _ _ _ (zI (-1)) hS ⟨congrArg (fun x : Int => some (zV x)) (by rw [← he, show nm - i = 0 by omega]; rfl), τ2, hM, hc2, hmb⟩ rfl dX5_wrongLink_64
      · have hx3 : τ2.1 3 = zI (nm : Int) := hL.2.2.2.1
        have hnm : nm ≤ 24 := p8
        have hmt := cMt_of hp hn hx12 hbo hx15 ((hbv i (by omega)).chg hc2 (by decide)) ((hcr i (by omega)).chg hc2 (by decide)) (show i < nm by omega)
        obtain ⟨o1, o2, o3, o4, o5, o6, o7⟩ := hbo i (by omega)
        have hci := cP_in hp hx12 (i := i) (by omega)
        refine lv_aload_n C.1 C.2.1 dX5_wrongLink_14 rfl (lv_at hl 1 rfl) ?_
        refine lv_iload_n C.1 C.2.1 dX5_wrongLink_15 rfl (lv_at hl 0 rfl) ?_
        refine z_readV C (As := [zN i]) (rest := []) (c_bodyOf l Z hM hx3 hnm i rfl (by omega)) hM.img rfl ⟨⟨zw_16_18, zw_1_18, zw_20_12⟩, zd_X2_bodyOf⟩ zw_16_16 zw_16_17 ⟨Nat.le_of_ble_eq_true rfl, Nat.le_of_ble_eq_true rfl⟩ ⟨rfl, rfl⟩ rfl hl.1 rfl (Nat.le_of_ble_eq_true rfl) dX5_wrongLink_16 ⟨Nat.zero_le _, Nat.zero_le _⟩ hS (fun locs hS => ?_)
        refine lv_astore_n (lv' := [(2, .ref (ad (16 + i))), (1, zN i), (0, .ref (ad 0))]) C.1 C.2.1 dX5_wrongLink_19 rfl hl (by decide) rfl (fun ls hl => ?_)
        refine lv_aload_n C.1 C.2.1 dX5_wrongLink_20 rfl (lv_at hl 0 rfl) ?_
        refine lv_ifnonnull (tgt := 33) C.1 C.2.1 dX5_wrongLink_21 (by decide) ?_
        refine lv_aload_n C.1 C.2.1 dX5_wrongLink_33 rfl (lv_at hl 2 rfl) ?_
        refine lv_aload_n C.1 C.2.1 dX5_wrongLink_34 rfl (lv_at hl 0 rfl) ?_
        refine z_readS C (As := [.ref (ad 0), .ref (ad (16 + i))]) (rest := []) (c_X5_wrongInstructionLink l Z hM hB hmt hP hmb (by omega)) ⟨⟨zw_22_15, zw_20_6, zw_22_13⟩, zd_X5_wrongInstructionLink⟩ zw_22_14 ⟨Nat.le_of_ble_eq_true rfl, Nat.le_of_ble_eq_true rfl⟩ ⟨rfl, rfl⟩ rfl hl.1 rfl (Nat.le_of_ble_eq_true rfl) dX5_wrongLink_35 ⟨Nat.zero_le _, Nat.zero_le _⟩ hS (fun locs hS => ?_)
        rcases oI_c (fst1 (g16 F tb mt cl nf nm (cP F tb mt nf i + 14) (cS F (cP F tb mt nf i)) (U2 F (cP F tb mt nf i + 8)) (nWf F tb mt nf i)) (nWf F tb mt nf i) 0) with ho35 | ⟨q35, ho35⟩
        · refine z_re (y := zI (-1)) (by rw [ho35]; rfl) ?_
          refine lv_istore_n (lv' := [(3, zV (-1)), (2, .ref (ad (16 + i))), (1, zN i), (0, .ref (ad 0))]) C.1 C.2.1 dX5_wrongLink_38 rfl hl (by decide) rfl (fun ls hl => ?_)
          refine lv_iload_n C.1 C.2.1 dX5_wrongLink_39 rfl (lv_at hl 0 rfl) ?_
          refine lv_iconst (v := zI (-1)) C.1 C.2.1 dX5_wrongLink_40 (by decide) ?_
          refine y_icmp_ne (tgt := 50) C (a := -1) (b := -1) dX5_wrongLink_41 (by decide) (by omega) (fun h41 => ?_) (fun h41 => ?_)
          · exact False.elim (by first | omega | exact h41 rfl)
          · refine lv_aload_n C.1 C.2.1 dX5_wrongLink_44 rfl (lv_at hl 3 rfl) ?_
            refine lv_aload_n C.1 C.2.1 dX5_wrongLink_45 rfl (lv_at hl 1 rfl) ?_
            refine z_readS C (As := [.ref (ad 0), .ref (ad (16 + i))]) (rest := []) (c_X5_wrongCatch l Z hM hB hmt hP p4 hx6 (by omega) (by omega)) ⟨⟨zw_25_0, zw_20_6, zw_24_22⟩, zd_X5_wrongCatch⟩ zw_24_23 ⟨Nat.le_of_ble_eq_true rfl, Nat.le_of_ble_eq_true rfl⟩ ⟨rfl, rfl⟩ rfl hl.1 rfl (Nat.le_of_ble_eq_true rfl) dX5_wrongLink_46 ⟨Nat.zero_le _, Nat.zero_le _⟩ hS (fun locs hS => ?_)
            rcases oI_c (fst1 (fun k => ctR F tb (U2 F 8) (cS F (cP F tb mt nf i)) (nbR F (cP F tb mt nf i + 14) (cS F (cP F tb mt nf i)) (nWf F tb mt nf i)) (cH F (cP F tb mt nf i) + 8 * k)) (cN F (cP F tb mt nf i)) 0) with ho46 | ⟨q46, ho46⟩
            · refine z_re (y := zI (-1)) (by rw [ho46]; rfl) ?_
              refine lv_istore_n (lv' := [(3, zV (-1)), (2, .ref (ad (16 + i))), (1, zN i), (0, .ref (ad 0))]) C.1 C.2.1 dX5_wrongLink_49 rfl hl (by decide) rfl (fun ls hl => ?_)
              refine lv_iload_n C.1 C.2.1 dX5_wrongLink_50 rfl (lv_at hl 0 rfl) ?_
              refine lv_iconst (v := zI (-1)) C.1 C.2.1 dX5_wrongLink_51 (by decide) ?_
              refine y_icmp_eq (tgt := 57) C (a := -1) (b := -1) dX5_wrongLink_52 (by decide) (by omega) (fun h52 => ?_) (fun h52 => ?_)
              · refine lv_iinc (v := zI ((i + 1 : Nat) : Int)) (lv' := [(1, zN (i + 1)), (3, zV (-1)), (2, .ref (ad (16 + i))), (0, .ref (ad 0))]) C.1 C.2.1 dX5_wrongLink_57 hl (k := 2) rfl (zI_add _ _) (by decide) rfl (fun ls hl => ?_)
                refine lv_goto (tgt := 6) C.1 C.2.1 dX5_wrongLink_60 (by decide) ?_
                exact ih_loop (i + 1) ls _ hS (by omega) (by rw [← he, show nm - i = (nm - (i + 1)) + 1 by omega, fst1_s (g := x16f F tb mt cl nf nm) (show (fst1 (g16 F tb mt cl nf nm (cP F tb mt nf i + 14) (cS F (cP F tb mt nf i)) (U2 F (cP F tb mt nf i + 8)) (nWf F tb mt nf i)) (nWf F tb mt nf i) 0).or (fst1 (fun k => ctR F tb (U2 F 8) (cS F (cP F tb mt nf i)) (nbR F (cP F tb mt nf i + 14) (cS F (cP F tb mt nf i)) (nWf F tb mt nf i)) (cH F (cP F tb mt nf i) + 8 * k)) (cN F (cP F tb mt nf i)) 0) = none by rw [ho35, ho46]; rfl)]) (lv_sub hl [0, 3] rfl)
              · exact False.elim (by first | omega | exact h52 rfl)
            · refine z_re (y := zI ((q46 : Nat) : Int)) (by rw [ho46]; rfl) ?_
              have hob46 : q46 ≤ n := ctR_b ho46 (by omega)
              refine lv_istore_n (lv' := [(3, zN q46), (2, .ref (ad (16 + i))), (1, zN i), (0, .ref (ad 0))]) C.1 C.2.1 dX5_wrongLink_49 rfl hl (by decide) rfl (fun ls hl => ?_)
              refine lv_iload_n C.1 C.2.1 dX5_wrongLink_50 rfl (lv_at hl 0 rfl) ?_
              refine lv_iconst (v := zI (-1)) C.1 C.2.1 dX5_wrongLink_51 (by decide) ?_
              refine y_icmp_eq (tgt := 57) C (a := ((q46 : Nat) : Int)) (b := -1) dX5_wrongLink_52 (by decide) (by omega) (fun h52 => ?_) (fun h52 => ?_)
              · exact False.elim (by first | omega | exact h52 rfl)
              · refine lv_iload_n C.1 C.2.1 dX5_wrongLink_55 rfl (lv_at hl 0 rfl) ?_
                exact hret _ _ _ _ (zI ((q46 : Nat) : Int)) hS ⟨congrArg (fun x : Int => some (zV x)) (by rw [← he, show nm - i = (nm - (i + 1)) + 1 by omega, fst1_e (g := x16f F tb mt cl nf nm) (show (fst1 (g16 F tb mt cl nf nm (cP F tb mt nf i + 14) (cS F (cP F tb mt nf i)) (U2 F (cP F tb mt nf i + 8)) (nWf F tb mt nf i)) (nWf F tb mt nf i) 0).or (fst1 (fun k => ctR F tb (U2 F 8) (cS F (cP F tb mt nf i)) (nbR F (cP F tb mt nf i + 14) (cS F (cP F tb mt nf i)) (nWf F tb mt nf i)) (cH F (cP F tb mt nf i) + 8 * k)) (cN F (cP F tb mt nf i)) 0) = some q46 by rw [ho35, ho46]; rfl)]; rfl), τ2, hM, hc2, hmb⟩ rfl dX5_wrongLink_56
        · refine z_re (y := zI ((q35 : Nat) : Int)) (by rw [ho35]; rfl) ?_
          have hob35 : q35 ≤ n := g16_b ho35 hmt hn
          refine lv_istore_n (lv' := [(3, zN q35), (2, .ref (ad (16 + i))), (1, zN i), (0, .ref (ad 0))]) C.1 C.2.1 dX5_wrongLink_38 rfl hl (by decide) rfl (fun ls hl => ?_)
          refine lv_iload_n C.1 C.2.1 dX5_wrongLink_39 rfl (lv_at hl 0 rfl) ?_
          refine lv_iconst (v := zI (-1)) C.1 C.2.1 dX5_wrongLink_40 (by decide) ?_
          refine y_icmp_ne (tgt := 50) C (a := ((q35 : Nat) : Int)) (b := -1) dX5_wrongLink_41 (by decide) (by omega) (fun h41 => ?_) (fun h41 => ?_)
          · refine lv_iload_n C.1 C.2.1 dX5_wrongLink_50 rfl (lv_at hl 0 rfl) ?_
            refine lv_iconst (v := zI (-1)) C.1 C.2.1 dX5_wrongLink_51 (by decide) ?_
            refine y_icmp_eq (tgt := 57) C (a := ((q35 : Nat) : Int)) (b := -1) dX5_wrongLink_52 (by decide) (by omega) (fun h52 => ?_) (fun h52 => ?_)
            · exact False.elim (by first | omega | exact h52 rfl)
            · refine lv_iload_n C.1 C.2.1 dX5_wrongLink_55 rfl (lv_at hl 0 rfl) ?_
              exact hret _ _ _ _ (zI ((q35 : Nat) : Int)) hS ⟨congrArg (fun x : Int => some (zV x)) (by rw [← he, show nm - i = (nm - (i + 1)) + 1 by omega, fst1_e (g := x16f F tb mt cl nf nm) (show (fst1 (g16 F tb mt cl nf nm (cP F tb mt nf i + 14) (cS F (cP F tb mt nf i)) (U2 F (cP F tb mt nf i + 8)) (nWf F tb mt nf i)) (nWf F tb mt nf i) 0).or (fst1 (fun k => ctR F tb (U2 F 8) (cS F (cP F tb mt nf i)) (nbR F (cP F tb mt nf i + 14) (cS F (cP F tb mt nf i)) (nWf F tb mt nf i)) (cH F (cP F tb mt nf i) + 8 * k)) (cN F (cP F tb mt nf i)) 0) = some q35 by rw [ho35]; rfl)]; rfl), τ2, hM, hc2, hmb⟩ rfl dX5_wrongLink_56
          · exact False.elim (by first | omega | exact h41 rfl)
  exact loop (nm + 1) 0 ls _ hS (by omega) rfl hl

theorem x6_b {F tb : Nat → Nat} {n pc q : Nat} (hp : pPl F n tb pc) (hn : n ≤ 16000) (h : x6 F tb pc = some q) : q ≤ n := by
  obtain ⟨j, a, b, e⟩ := fst1_q _ _ h
  unfold g6 at e
  split at e
  · cases e
  · cases e
    rcases Nat.eq_zero_or_pos (tb j) with z | z
    · omega
    · have := (hp j (by omega)).2.2.2
      obtain ⟨q', hq⟩ := this
      have := hq.1
      omega
theorem x7_b {F tb mt : Nat → Nat} {n cl nf nm fa last q : Nat} (hp : pLay F n tb cl nf nm mt fa last) (h : x7 F mt cl (nf + nm) = some q) : q ≤ n := by
  have hc := hp.2.2.2.2.2.1
  unfold x7 at h
  split at h
  · obtain ⟨j, a, b, e⟩ := fst1_q _ _ h
    have hm : mt j + 8 ≤ n := by
      rcases Nat.lt_or_ge j nf with z | z
      · exact (hp.m1 z).1
      · have := (hp.m2 (j := j - nf) (by omega)).1
        rw [show nf + (j - nf) = j by omega] at this
        exact this
    unfold g7 at e
    split at e
    · cases e
    · cases e; omega
  · cases h; omega
theorem x8_b {F tb : Nat → Nat} {pc cl n q : Nat} (hc : cl + 8 ≤ n) (h : x8 F tb pc cl = some q) : q ≤ n := by
  unfold x8 at h
  (repeat' split at h) <;> first | (cases h; omega) | cases h
theorem mAll_b {F tb mt : Nat → Nat} {n cl nf nm fa last j : Nat} (hp : pLay F n tb cl nf nm mt fa last) (hj : j < nf + nm) : mt j + 8 ≤ n ∧ pAt F n (mt j + 6) := by
  rcases Nat.lt_or_ge j nf with z | z
  · exact hp.m1 z
  · have := hp.m2 (j := j - nf) (by omega)
    rw [show nf + (j - nf) = j by omega] at this
    exact this
theorem x9_b {F tb mt : Nat → Nat} {n cl nf nm fa last q : Nat} (hp : pLay F n tb cl nf nm mt fa last) (h : x9 F tb (U2 F 8) mt (nf + nm) fa = some q) : q ≤ n := by
  unfold x9 at h
  cases e : fst1 (x9m F tb (U2 F 8) mt) (nf + nm) 0 with
  | some r => rw [e] at h; cases h; exact x9m_b (fun j hj => mAll_b hp hj) e
  | none => rw [e] at h; exact x9a_b hp.2.2.2.2.2.2.2.2.2.2.1 h
theorem tb_b {F tb : Nat → Nat} {n pc k : Nat} (hp : pPl F n tb pc) (hn : n ≤ 16000) : tb k ≤ n := by
  rcases Nat.eq_zero_or_pos (tb k) with z | z
  · omega
  · obtain ⟨q', hq⟩ := (hp k (by omega)).2.2.2
    have := hq.1
    omega
theorem x10_b {F tb mt : Nat → Nat} {n cl nf nm fa last q : Nat} (hp : pLay F n tb cl nf nm mt fa last) (hn : n ≤ 16000) (h : x10 F tb (U2 F 8) mt nf (nf + nm) = some q) : q ≤ n := by
  unfold x10 at h
  cases e : fst1 (g10 F tb) (U2 F 8 - 1) 1 with
  | some r =>
    rw [e] at h; cases h
    obtain ⟨j, a, b, e2⟩ := fst1_q _ _ e
    have e3 := g10_s (F := F) (tb := tb) (k := j) (by rw [e2]; simp)
    rw [e2] at e3; cases e3
    exact tb_b hp.2.2.2.1 hn
  | none =>
    rw [e] at h
    obtain ⟨j, a, b, e2⟩ := fst1_q _ _ h
    have := (mAll_b hp (j := j) (by omega)).1
    unfold g10m at e2
    (repeat' split at e2) <;> first | (cases e2; omega) | cases e2
theorem x11_b {F tb mt : Nat → Nat} {n cl nf nm fa last q : Nat} (hp : pLay F n tb cl nf nm mt fa last) (h : x11 F tb mt nf (nf + nm) = some q) : q ≤ n := by
  rw [x11_r] at h
  cases e : fst1 (r11 F tb mt) nf 0 with
  | some r => rw [e] at h; cases h; exact r11_b (fun j hj => (hp.m1 hj).1) e
  | none => rw [e] at h; exact r11_b (f := fun j => mt (nf + j)) (fun j hj => (hp.m2 hj).1) h
theorem x12_b {F tb mt : Nat → Nat} {n cl nf nm fa last q : Nat} (hp : pLay F n tb cl nf nm mt fa last) (h : x12 F tb mt nf (nf + nm) = some q) : q ≤ n := by
  rw [x12_r] at h
  obtain ⟨j, a, b, e⟩ := fst1_q _ _ h
  have := (hp.m2 (j := j) (by omega)).1
  have e : g12 F tb mt (nf + j) = some q := e
  unfold g12 at e
  split at e
  · cases e
  · cases e; omega
theorem last_b {F tb mt : Nat → Nat} {n cl nf nm fa last : Nat} (hp : pLay F n tb cl nf nm mt fa last) : last ≤ n := by
  have := hp.2.2.2.2.2.2.2.2.2.2.2
  rw [this]
  exact hp.2.2.2.2.2.2.2.2.2.2.1.2.1

set_option maxHeartbeats 4000000 in
set_option maxRecDepth 20000 in
theorem c_X11_keepsNameRules (l : Launch) (Z : zT) {H : Heap} {ad : Nat → Nat} {τ : mS} {X : List (Nat × va_E)} (hM : isC Z H ad τ X) {F : Nat → Nat} {n : Nat} (hB : cSrc τ F n) {tb mt : Nat → Nat} {cl nf nm fa last : Nat} (hL : cLay τ F tb cl nf nm mt fa last) (hp : pLay F n tb cl nf nm mt fa last) {o : Nat} {fs : List Value} (hO : (o, .inr (7, .ref (ad 15) :: fs)) ∈ X) : zM l Z yX11_keepsNameRules cX11_keepsNameRules 2 (some .boolean) (rmk 8) [.ref o, .ref (ad 0)] H (cA ad) 0 0 (fun v H' => (x6 F tb (U2 F 8) = none ∧ x7 F mt cl (nf + nm) = none ∧ x8 F tb (U2 F 8) cl = none ∧ x9 F tb (U2 F 8) mt (nf + nm) fa = none ∧ x10 F tb (U2 F 8) mt nf (nf + nm) = none ∧ x11 F tb mt nf (nf + nm) = none ∧ x12 F tb mt nf (nf + nm) = none ∧ last = n ∧ v = some (zV 1) ∧ ∃ τ' : mS, isC Z H' ad τ' X ∧ chg [] [20] τ τ' ∧ ∀ i, i < nm → τ'.2.1 20 i = zI (cP F tb mt nf i : Int)) ∨ (∃ r w, xRest F n tb cl nf nm mt fa last = some (r, w) ∧ v = some (zV 0) ∧ gE Z H' ad X τ [8, 9] [20] r w)) := by
  have hn := hB.2.2.2
  have hP := hL.1
  obtain ⟨p1, p2, p3, p4, p5, p6, p7, p8, p9, p10, p11, p12⟩ := id hp
  obtain ⟨q1, q2, q3, q4, q5, q6, q7, q8, q9⟩ := id hL
  have hlb := last_b hp
  refine zM.introI (own := RX11) ⟨by decide, rfl⟩ (Nat.le_of_ble_eq_true rfl) ?_
  intro p e s m args below meth c Q ls hH C hl hret
  have hS : va_S (cA ad) s.heap H [] := by rw [hH]; exact va_S.rf
  have hl : lv_has ls 2 [(0, .ref o), (1, .ref (ad 0))] := hl
  refine lv_aload_n C.1 C.2.1 dX11_keepsNameRules_0 rfl (lv_at hl 0 rfl) ?_
  refine z_get C (v := .ref (ad 15)) (hM.ex' hO) rfl bi_wsX110 0 (by decide) zw_1_15 rfl rfl dX11_keepsNameRules_1 ?_
  refine lv_bipush (v := zI 6) C.1 C.2.1 dX11_keepsNameRules_4 (by decide) ?_
  refine lv_aload_n C.1 C.2.1 dX11_keepsNameRules_6 rfl (lv_at hl 1 rfl) ?_
  refine z_get C (v := .ref (ad 3)) hM.img rfl bi_wsX20 1 (by decide) zw_13_6 rfl rfl dX11_keepsNameRules_7 ?_
  refine z_readS C (As := [.ref (ad 3)]) (rest := [zN 6, .ref (ad 15)]) (c_X6_wrongEntry l Z hM hB hP p4 p2) ⟨⟨zw_13_11, zw_13_10, zw_13_8⟩, zd_X6_wrongEntry⟩ zw_13_9 ⟨Nat.le_of_ble_eq_true rfl, Nat.le_of_ble_eq_true rfl⟩ ⟨rfl, rfl⟩ rfl hl.1 rfl (Nat.le_of_ble_eq_true rfl) dX11_keepsNameRules_10 ⟨Nat.zero_le _, Nat.zero_le _⟩ hS (fun locs hS => ?_)
  rcases oI_c (x6 F tb (U2 F 8)) with ho6 | ⟨q6, ho6⟩
  · refine z_re (y := zI (-1)) (by rw [ho6]; rfl) ?_
    refine z_callV C (As := [zN 6, zV (-1)]) (rest := []) (c_X10_keeps l Z hM (zI 6) (-1) (by omega)) hM.ver rfl ⟨⟨zw_14_2, zw_1_14, zw_13_23⟩, zd_X10_keeps⟩ zw_14_0 zw_14_1 ⟨Nat.le_of_ble_eq_true rfl, Nat.le_of_ble_eq_true rfl⟩ ⟨rfl, rfl⟩ rfl hl.1 rfl (Nat.le_of_ble_eq_true rfl) dX11_keepsNameRules_13 ⟨Nat.zero_le _, Nat.zero_le _⟩ hS (fun _ h => h) (fun v H locs hp_ hS _ _ => ?_)
    obtain ⟨kp1, kp2⟩ := hp_
    obtain ⟨rfl, hM⟩ := kp1 rfl
    refine y_if_eq (tgt := 153) C (a := 1) dX11_keepsNameRules_16 (by decide) (by omega) (fun h16 => ?_) (fun h16 => ?_)
    · exact False.elim (by first | omega | exact h16 rfl)
    · refine lv_aload_n C.1 C.2.1 dX11_keepsNameRules_19 rfl (lv_at hl 0 rfl) ?_
      refine z_get C (v := .ref (ad 15)) (hM.ex' hO) rfl bi_wsX110 0 (by decide) zw_1_15 rfl rfl dX11_keepsNameRules_20 ?_
      refine lv_bipush (v := zI 7) C.1 C.2.1 dX11_keepsNameRules_23 (by decide) ?_
      refine lv_aload_n C.1 C.2.1 dX11_keepsNameRules_25 rfl (lv_at hl 1 rfl) ?_
      refine z_readS C (As := [.ref (ad 0)]) (rest := [zN 7, .ref (ad 15)]) (c_X6_wrongFlags l Z hM hB hL hp) ⟨⟨zw_14_6, zw_13_10, zw_14_4⟩, zd_X6_wrongFlags⟩ zw_14_5 ⟨Nat.le_of_ble_eq_true rfl, Nat.le_of_ble_eq_true rfl⟩ ⟨rfl, rfl⟩ rfl hl.1 rfl (Nat.le_of_ble_eq_true rfl) dX11_keepsNameRules_26 ⟨Nat.zero_le _, Nat.zero_le _⟩ hS (fun locs hS => ?_)
      rcases oI_c (x7 F mt cl (nf + nm)) with ho7 | ⟨q7, ho7⟩
      · refine z_re (y := zI (-1)) (by rw [ho7]; rfl) ?_
        refine z_callV C (As := [zN 7, zV (-1)]) (rest := []) (c_X10_keeps l Z hM (zI 7) (-1) (by omega)) hM.ver rfl ⟨⟨zw_14_2, zw_1_14, zw_13_23⟩, zd_X10_keeps⟩ zw_14_0 zw_14_1 ⟨Nat.le_of_ble_eq_true rfl, Nat.le_of_ble_eq_true rfl⟩ ⟨rfl, rfl⟩ rfl hl.1 rfl (Nat.le_of_ble_eq_true rfl) dX11_keepsNameRules_29 ⟨Nat.zero_le _, Nat.zero_le _⟩ hS (fun _ h => h) (fun v H locs hp_ hS _ _ => ?_)
        obtain ⟨kp1, kp2⟩ := hp_
        obtain ⟨rfl, hM⟩ := kp1 rfl
        refine y_if_eq (tgt := 153) C (a := 1) dX11_keepsNameRules_32 (by decide) (by omega) (fun h32 => ?_) (fun h32 => ?_)
        · exact False.elim (by first | omega | exact h32 rfl)
        · refine lv_aload_n C.1 C.2.1 dX11_keepsNameRules_35 rfl (lv_at hl 0 rfl) ?_
          refine z_get C (v := .ref (ad 15)) (hM.ex' hO) rfl bi_wsX110 0 (by decide) zw_1_15 rfl rfl dX11_keepsNameRules_36 ?_
          refine lv_bipush (v := zI 8) C.1 C.2.1 dX11_keepsNameRules_39 (by decide) ?_
          refine lv_aload_n C.1 C.2.1 dX11_keepsNameRules_41 rfl (lv_at hl 1 rfl) ?_
          refine z_readS C (As := [.ref (ad 0)]) (rest := [zN 8, .ref (ad 15)]) (c_X6_wrongClass l Z hM hB hL hp) ⟨⟨zw_14_19, zw_13_10, zw_14_17⟩, zd_X6_wrongClass⟩ zw_14_18 ⟨Nat.le_of_ble_eq_true rfl, Nat.le_of_ble_eq_true rfl⟩ ⟨rfl, rfl⟩ rfl hl.1 rfl (Nat.le_of_ble_eq_true rfl) dX11_keepsNameRules_42 ⟨Nat.zero_le _, Nat.zero_le _⟩ hS (fun locs hS => ?_)
          rcases oI_c (x8 F tb (U2 F 8) cl) with ho8 | ⟨q8, ho8⟩
          · refine z_re (y := zI (-1)) (by rw [ho8]; rfl) ?_
            refine z_callV C (As := [zN 8, zV (-1)]) (rest := []) (c_X10_keeps l Z hM (zI 8) (-1) (by omega)) hM.ver rfl ⟨⟨zw_14_2, zw_1_14, zw_13_23⟩, zd_X10_keeps⟩ zw_14_0 zw_14_1 ⟨Nat.le_of_ble_eq_true rfl, Nat.le_of_ble_eq_true rfl⟩ ⟨rfl, rfl⟩ rfl hl.1 rfl (Nat.le_of_ble_eq_true rfl) dX11_keepsNameRules_45 ⟨Nat.zero_le _, Nat.zero_le _⟩ hS (fun _ h => h) (fun v H locs hp_ hS _ _ => ?_)
            obtain ⟨kp1, kp2⟩ := hp_
            obtain ⟨rfl, hM⟩ := kp1 rfl
            refine y_if_eq (tgt := 153) C (a := 1) dX11_keepsNameRules_48 (by decide) (by omega) (fun h48 => ?_) (fun h48 => ?_)
            · exact False.elim (by first | omega | exact h48 rfl)
            · refine lv_aload_n C.1 C.2.1 dX11_keepsNameRules_51 rfl (lv_at hl 0 rfl) ?_
              refine z_get C (v := .ref (ad 15)) (hM.ex' hO) rfl bi_wsX110 0 (by decide) zw_1_15 rfl rfl dX11_keepsNameRules_52 ?_
              refine lv_bipush (v := zI 9) C.1 C.2.1 dX11_keepsNameRules_55 (by decide) ?_
              refine lv_aload_n C.1 C.2.1 dX11_keepsNameRules_57 rfl (lv_at hl 1 rfl) ?_
              refine z_readS C (As := [.ref (ad 0)]) (rest := [zN 9, .ref (ad 15)]) (c_X6_wrongName l Z hM hB hL hp) ⟨⟨zw_14_23, zw_13_10, zw_14_21⟩, zd_X6_wrongName⟩ zw_14_22 ⟨Nat.le_of_ble_eq_true rfl, Nat.le_of_ble_eq_true rfl⟩ ⟨rfl, rfl⟩ rfl hl.1 rfl (Nat.le_of_ble_eq_true rfl) dX11_keepsNameRules_58 ⟨Nat.zero_le _, Nat.zero_le _⟩ hS (fun locs hS => ?_)
              rcases oI_c (x9 F tb (U2 F 8) mt (nf + nm) fa) with ho9 | ⟨q9, ho9⟩
              · refine z_re (y := zI (-1)) (by rw [ho9]; rfl) ?_
                refine z_callV C (As := [zN 9, zV (-1)]) (rest := []) (c_X10_keeps l Z hM (zI 9) (-1) (by omega)) hM.ver rfl ⟨⟨zw_14_2, zw_1_14, zw_13_23⟩, zd_X10_keeps⟩ zw_14_0 zw_14_1 ⟨Nat.le_of_ble_eq_true rfl, Nat.le_of_ble_eq_true rfl⟩ ⟨rfl, rfl⟩ rfl hl.1 rfl (Nat.le_of_ble_eq_true rfl) dX11_keepsNameRules_61 ⟨Nat.zero_le _, Nat.zero_le _⟩ hS (fun _ h => h) (fun v H locs hp_ hS _ _ => ?_)
                obtain ⟨kp1, kp2⟩ := hp_
                obtain ⟨rfl, hM⟩ := kp1 rfl
                refine y_if_eq (tgt := 153) C (a := 1) dX11_keepsNameRules_64 (by decide) (by omega) (fun h64 => ?_) (fun h64 => ?_)
                · exact False.elim (by first | omega | exact h64 rfl)
                · refine lv_aload_n C.1 C.2.1 dX11_keepsNameRules_67 rfl (lv_at hl 0 rfl) ?_
                  refine z_get C (v := .ref (ad 15)) (hM.ex' hO) rfl bi_wsX110 0 (by decide) zw_1_15 rfl rfl dX11_keepsNameRules_68 ?_
                  refine lv_bipush (v := zI 10) C.1 C.2.1 dX11_keepsNameRules_71 (by decide) ?_
                  refine lv_aload_n C.1 C.2.1 dX11_keepsNameRules_73 rfl (lv_at hl 1 rfl) ?_
                  refine z_readS C (As := [.ref (ad 0)]) (rest := [zN 10, .ref (ad 15)]) (c_X6_wrongType l Z hM hB hL hp ho6 ho9) ⟨⟨zw_15_19, zw_13_10, zw_15_17⟩, zd_X6_wrongType⟩ zw_15_18 ⟨Nat.le_of_ble_eq_true rfl, Nat.le_of_ble_eq_true rfl⟩ ⟨rfl, rfl⟩ rfl hl.1 rfl (Nat.le_of_ble_eq_true rfl) dX11_keepsNameRules_74 ⟨Nat.zero_le _, Nat.zero_le _⟩ hS (fun locs hS => ?_)
                  rcases oI_c (x10 F tb (U2 F 8) mt nf (nf + nm)) with ho10 | ⟨q10, ho10⟩
                  · refine z_re (y := zI (-1)) (by rw [ho10]; rfl) ?_
                    refine z_callV C (As := [zN 10, zV (-1)]) (rest := []) (c_X10_keeps l Z hM (zI 10) (-1) (by omega)) hM.ver rfl ⟨⟨zw_14_2, zw_1_14, zw_13_23⟩, zd_X10_keeps⟩ zw_14_0 zw_14_1 ⟨Nat.le_of_ble_eq_true rfl, Nat.le_of_ble_eq_true rfl⟩ ⟨rfl, rfl⟩ rfl hl.1 rfl (Nat.le_of_ble_eq_true rfl) dX11_keepsNameRules_77 ⟨Nat.zero_le _, Nat.zero_le _⟩ hS (fun _ h => h) (fun v H locs hp_ hS _ _ => ?_)
                    obtain ⟨kp1, kp2⟩ := hp_
                    obtain ⟨rfl, hM⟩ := kp1 rfl
                    refine y_if_eq (tgt := 153) C (a := 1) dX11_keepsNameRules_80 (by decide) (by omega) (fun h80 => ?_) (fun h80 => ?_)
                    · exact False.elim (by first | omega | exact h80 rfl)
                    · refine lv_aload_n C.1 C.2.1 dX11_keepsNameRules_83 rfl (lv_at hl 0 rfl) ?_
                      refine z_get C (v := .ref (ad 15)) (hM.ex' hO) rfl bi_wsX110 0 (by decide) zw_1_15 rfl rfl dX11_keepsNameRules_84 ?_
                      refine lv_bipush (v := zI 11) C.1 C.2.1 dX11_keepsNameRules_87 (by decide) ?_
                      refine lv_aload_n C.1 C.2.1 dX11_keepsNameRules_89 rfl (lv_at hl 1 rfl) ?_
                      refine z_readS C (As := [.ref (ad 0)]) (rest := [zN 11, .ref (ad 15)]) (c_X6_repeatedName l Z hM hB hL hp ho6 ho9) ⟨⟨zw_16_4, zw_13_10, zw_16_2⟩, zd_X6_repeatedName⟩ zw_16_3 ⟨Nat.le_of_ble_eq_true rfl, Nat.le_of_ble_eq_true rfl⟩ ⟨rfl, rfl⟩ rfl hl.1 rfl (Nat.le_of_ble_eq_true rfl) dX11_keepsNameRules_90 ⟨Nat.zero_le _, Nat.zero_le _⟩ hS (fun locs hS => ?_)
                      rcases oI_c (x11 F tb mt nf (nf + nm)) with ho11 | ⟨q11, ho11⟩
                      · refine z_re (y := zI (-1)) (by rw [ho11]; rfl) ?_
                        refine z_callV C (As := [zN 11, zV (-1)]) (rest := []) (c_X10_keeps l Z hM (zI 11) (-1) (by omega)) hM.ver rfl ⟨⟨zw_14_2, zw_1_14, zw_13_23⟩, zd_X10_keeps⟩ zw_14_0 zw_14_1 ⟨Nat.le_of_ble_eq_true rfl, Nat.le_of_ble_eq_true rfl⟩ ⟨rfl, rfl⟩ rfl hl.1 rfl (Nat.le_of_ble_eq_true rfl) dX11_keepsNameRules_93 ⟨Nat.zero_le _, Nat.zero_le _⟩ hS (fun _ h => h) (fun v H locs hp_ hS _ _ => ?_)
                        obtain ⟨kp1, kp2⟩ := hp_
                        obtain ⟨rfl, hM⟩ := kp1 rfl
                        refine y_if_eq (tgt := 153) C (a := 1) dX11_keepsNameRules_96 (by decide) (by omega) (fun h96 => ?_) (fun h96 => ?_)
                        · exact False.elim (by first | omega | exact h96 rfl)
                        · refine lv_aload_n C.1 C.2.1 dX11_keepsNameRules_99 rfl (lv_at hl 0 rfl) ?_
                          refine z_get C (v := .ref (ad 15)) (hM.ex' hO) rfl bi_wsX110 0 (by decide) zw_1_15 rfl rfl dX11_keepsNameRules_100 ?_
                          refine lv_bipush (v := zI 12) C.1 C.2.1 dX11_keepsNameRules_103 (by decide) ?_
                          refine lv_aload_n C.1 C.2.1 dX11_keepsNameRules_105 rfl (lv_at hl 1 rfl) ?_
                          refine z_callS C (As := [.ref (ad 0)]) (rest := [zN 12, .ref (ad 15)]) (c_X6_wrongCode l Z hM hB hL hp ho6 ho9) ⟨⟨zw_16_14, zw_13_10, zw_16_12⟩, zd_X6_wrongCode⟩ zw_16_13 ⟨Nat.le_of_ble_eq_true rfl, Nat.le_of_ble_eq_true rfl⟩ ⟨rfl, rfl⟩ rfl hl.1 rfl (Nat.le_of_ble_eq_true rfl) dX11_keepsNameRules_106 ⟨Nat.zero_le _, Nat.zero_le _⟩ hS (fun _ h => h) (fun v H locs hp_ hS _ _ => ?_)
                          obtain ⟨rfl, τ2, hM, hc2, h20⟩ := hp_
                          rcases oI_c (x12 F tb mt nf (nf + nm)) with ho12 | ⟨q12, ho12⟩
                          · refine z_re (y := zI (-1)) (by rw [ho12]; rfl) ?_
                            have hB := hB.chg hc2 (by decide) (by decide)
                            have hL := hL.chg hc2 (by decide) (by decide)
                            refine z_callV C (As := [zN 12, zV (-1)]) (rest := []) (c_X10_keeps l Z hM (zI 12) (-1) (by omega)) hM.ver rfl ⟨⟨zw_14_2, zw_1_14, zw_13_23⟩, zd_X10_keeps⟩ zw_14_0 zw_14_1 ⟨Nat.le_of_ble_eq_true rfl, Nat.le_of_ble_eq_true rfl⟩ ⟨rfl, rfl⟩ rfl hl.1 rfl (Nat.le_of_ble_eq_true rfl) dX11_keepsNameRules_109 ⟨Nat.zero_le _, Nat.zero_le _⟩ hS (fun _ h => h) (fun v H locs hp_ hS _ _ => ?_)
                            obtain ⟨kp1, kp2⟩ := hp_
                            obtain ⟨rfl, hM⟩ := kp1 rfl
                            refine y_if_eq (tgt := 153) C (a := 1) dX11_keepsNameRules_112 (by decide) (by omega) (fun h112 => ?_) (fun h112 => ?_)
                            · exact False.elim (by first | omega | exact h112 rfl)
                            · refine lv_aload_n C.1 C.2.1 dX11_keepsNameRules_115 rfl (lv_at hl 0 rfl) ?_
                              refine z_get C (v := .ref (ad 15)) (hM.ex' hO) rfl bi_wsX110 0 (by decide) zw_1_15 rfl rfl dX11_keepsNameRules_116 ?_
                              refine lv_bipush (v := zI 17) C.1 C.2.1 dX11_keepsNameRules_119 (by decide) ?_
                              refine lv_aload_n C.1 C.2.1 dX11_keepsNameRules_121 rfl (lv_at hl 1 rfl) ?_
                              refine z_get C (v := .int (τ2.1 6)) hM.img rfl bi_wsX20 10 (by decide) zw_13_7 rfl rfl dX11_keepsNameRules_122 ?_
                              refine z_re (y := zI ((last : Nat) : Int)) hL.2.2.2.2.2.2.1 ?_
                              refine lv_aload_n C.1 C.2.1 dX11_keepsNameRules_125 rfl (lv_at hl 1 rfl) ?_
                              refine z_get C (v := .ref (ad 1)) hM.img rfl bi_wsX20 0 (by decide) zw_6_9 rfl rfl dX11_keepsNameRules_126 ?_
                              refine z_get C (v := .int (τ2.1 0)) hM.byt rfl bi_wsX10 1 (by decide) zw_6_10 rfl rfl dX11_keepsNameRules_129 ?_
                              refine z_re (y := zI ((n : Nat) : Int)) hB.2.2.1 ?_
                              refine y_icmp_ne (tgt := 139) C (a := ((last : Nat) : Int)) (b := ((n : Nat) : Int)) dX11_keepsNameRules_132 (by decide) (by omega) (fun h132 => ?_) (fun h132 => ?_)
                              · refine lv_aload_n C.1 C.2.1 dX11_keepsNameRules_139 rfl (lv_at hl 1 rfl) ?_
                                refine z_get C (v := .int (τ2.1 6)) hM.img rfl bi_wsX20 10 (by decide) zw_13_7 rfl rfl dX11_keepsNameRules_140 ?_
                                refine z_re (y := zI ((last : Nat) : Int)) hL.2.2.2.2.2.2.1 ?_
                                refine z_callV C (As := [zN 17, zN last]) (rest := []) (c_X10_keeps l Z hM (zI 17) (((last : Nat) : Int)) (by omega)) hM.ver rfl ⟨⟨zw_14_2, zw_1_14, zw_13_23⟩, zd_X10_keeps⟩ zw_14_0 zw_14_1 ⟨Nat.le_of_ble_eq_true rfl, Nat.le_of_ble_eq_true rfl⟩ ⟨rfl, rfl⟩ rfl hl.1 rfl (Nat.le_of_ble_eq_true rfl) dX11_keepsNameRules_143 ⟨Nat.zero_le _, Nat.zero_le _⟩ hS (fun _ h => h) (fun v H locs hp_ hS _ _ => ?_)
                                obtain ⟨kp1, kp2⟩ := hp_
                                obtain ⟨rfl, hM⟩ := kp2 (by omega)
                                refine y_if_eq (tgt := 153) C (a := 0) dX11_keepsNameRules_146 (by decide) (by omega) (fun h146 => ?_) (fun h146 => ?_)
                                · refine lv_iconst (v := zI 0) C.1 C.2.1 dX11_keepsNameRules_153 (by decide) ?_
                                  exact hret _ _ _ _ (zI 0) hS (Or.inr ⟨_, _, (by unfold xRest; rw [ho6, ho7, ho8, ho9, ho10]; unfold xR5; rw [ho11, ho12]; rw [if_neg (by omega)]; rfl), rfl, _, hM, (chg_sx (by decide) (chg_sx (by decide) (hc2.mono (by decide) (by decide)))), rfl, rfl⟩) rfl dX11_keepsNameRules_154
                                · exact False.elim (by first | omega | exact h146 rfl)
                              · refine lv_iconst (v := zI (-1)) C.1 C.2.1 dX11_keepsNameRules_135 (by decide) ?_
                                refine lv_goto (tgt := 143) C.1 C.2.1 dX11_keepsNameRules_136 (by decide) ?_
                                refine z_callV C (As := [zN 17, zV (-1)]) (rest := []) (c_X10_keeps l Z hM (zI 17) (-1) (by omega)) hM.ver rfl ⟨⟨zw_14_2, zw_1_14, zw_13_23⟩, zd_X10_keeps⟩ zw_14_0 zw_14_1 ⟨Nat.le_of_ble_eq_true rfl, Nat.le_of_ble_eq_true rfl⟩ ⟨rfl, rfl⟩ rfl hl.1 rfl (Nat.le_of_ble_eq_true rfl) dX11_keepsNameRules_143 ⟨Nat.zero_le _, Nat.zero_le _⟩ hS (fun _ h => h) (fun v H locs hp_ hS _ _ => ?_)
                                obtain ⟨kp1, kp2⟩ := hp_
                                obtain ⟨rfl, hM⟩ := kp1 rfl
                                refine y_if_eq (tgt := 153) C (a := 1) dX11_keepsNameRules_146 (by decide) (by omega) (fun h146 => ?_) (fun h146 => ?_)
                                · exact False.elim (by first | omega | exact h146 rfl)
                                · refine lv_iconst (v := zI 1) C.1 C.2.1 dX11_keepsNameRules_149 (by decide) ?_
                                  refine lv_goto (tgt := 154) C.1 C.2.1 dX11_keepsNameRules_150 (by decide) ?_
                                  exact hret _ _ _ _ (zI 1) hS (Or.inl ⟨ho6, ho7, ho8, ho9, ho10, ho11, ho12, (by omega), rfl, τ2, hM, hc2, h20 ho12⟩) rfl dX11_keepsNameRules_154
                          · refine z_re (y := zI ((q12 : Nat) : Int)) (by rw [ho12]; rfl) ?_
                            have hob12 : q12 ≤ n := x12_b hp ho12
                            have hB := hB.chg hc2 (by decide) (by decide)
                            have hL := hL.chg hc2 (by decide) (by decide)
                            refine z_callV C (As := [zN 12, zN q12]) (rest := []) (c_X10_keeps l Z hM (zI 12) (((q12 : Nat) : Int)) (by omega)) hM.ver rfl ⟨⟨zw_14_2, zw_1_14, zw_13_23⟩, zd_X10_keeps⟩ zw_14_0 zw_14_1 ⟨Nat.le_of_ble_eq_true rfl, Nat.le_of_ble_eq_true rfl⟩ ⟨rfl, rfl⟩ rfl hl.1 rfl (Nat.le_of_ble_eq_true rfl) dX11_keepsNameRules_109 ⟨Nat.zero_le _, Nat.zero_le _⟩ hS (fun _ h => h) (fun v H locs hp_ hS _ _ => ?_)
                            obtain ⟨kp1, kp2⟩ := hp_
                            obtain ⟨rfl, hM⟩ := kp2 (by omega)
                            refine y_if_eq (tgt := 153) C (a := 0) dX11_keepsNameRules_112 (by decide) (by omega) (fun h112 => ?_) (fun h112 => ?_)
                            · refine lv_iconst (v := zI 0) C.1 C.2.1 dX11_keepsNameRules_153 (by decide) ?_
                              exact hret _ _ _ _ (zI 0) hS (Or.inr ⟨_, _, (by unfold xRest; rw [ho6, ho7, ho8, ho9, ho10]; unfold xR5; rw [ho11, ho12]; rfl), rfl, _, hM, (chg_sx (by decide) (chg_sx (by decide) (hc2.mono (by decide) (by decide)))), rfl, rfl⟩) rfl dX11_keepsNameRules_154
                            · exact False.elim (by first | omega | exact h112 rfl)
                      · refine z_re (y := zI ((q11 : Nat) : Int)) (by rw [ho11]; rfl) ?_
                        have hob11 : q11 ≤ n := x11_b hp ho11
                        refine z_callV C (As := [zN 11, zN q11]) (rest := []) (c_X10_keeps l Z hM (zI 11) (((q11 : Nat) : Int)) (by omega)) hM.ver rfl ⟨⟨zw_14_2, zw_1_14, zw_13_23⟩, zd_X10_keeps⟩ zw_14_0 zw_14_1 ⟨Nat.le_of_ble_eq_true rfl, Nat.le_of_ble_eq_true rfl⟩ ⟨rfl, rfl⟩ rfl hl.1 rfl (Nat.le_of_ble_eq_true rfl) dX11_keepsNameRules_93 ⟨Nat.zero_le _, Nat.zero_le _⟩ hS (fun _ h => h) (fun v H locs hp_ hS _ _ => ?_)
                        obtain ⟨kp1, kp2⟩ := hp_
                        obtain ⟨rfl, hM⟩ := kp2 (by omega)
                        refine y_if_eq (tgt := 153) C (a := 0) dX11_keepsNameRules_96 (by decide) (by omega) (fun h96 => ?_) (fun h96 => ?_)
                        · refine lv_iconst (v := zI 0) C.1 C.2.1 dX11_keepsNameRules_153 (by decide) ?_
                          exact hret _ _ _ _ (zI 0) hS (Or.inr ⟨_, _, (by unfold xRest; rw [ho6, ho7, ho8, ho9, ho10]; unfold xR5; rw [ho11]; rfl), rfl, _, hM, (chg_sx (by decide) (chg_sx (by decide) chg.rf)), rfl, rfl⟩) rfl dX11_keepsNameRules_154
                        · exact False.elim (by first | omega | exact h96 rfl)
                  · refine z_re (y := zI ((q10 : Nat) : Int)) (by rw [ho10]; rfl) ?_
                    have hob10 : q10 ≤ n := x10_b hp hn ho10
                    refine z_callV C (As := [zN 10, zN q10]) (rest := []) (c_X10_keeps l Z hM (zI 10) (((q10 : Nat) : Int)) (by omega)) hM.ver rfl ⟨⟨zw_14_2, zw_1_14, zw_13_23⟩, zd_X10_keeps⟩ zw_14_0 zw_14_1 ⟨Nat.le_of_ble_eq_true rfl, Nat.le_of_ble_eq_true rfl⟩ ⟨rfl, rfl⟩ rfl hl.1 rfl (Nat.le_of_ble_eq_true rfl) dX11_keepsNameRules_77 ⟨Nat.zero_le _, Nat.zero_le _⟩ hS (fun _ h => h) (fun v H locs hp_ hS _ _ => ?_)
                    obtain ⟨kp1, kp2⟩ := hp_
                    obtain ⟨rfl, hM⟩ := kp2 (by omega)
                    refine y_if_eq (tgt := 153) C (a := 0) dX11_keepsNameRules_80 (by decide) (by omega) (fun h80 => ?_) (fun h80 => ?_)
                    · refine lv_iconst (v := zI 0) C.1 C.2.1 dX11_keepsNameRules_153 (by decide) ?_
                      exact hret _ _ _ _ (zI 0) hS (Or.inr ⟨_, _, (by unfold xRest; rw [ho6, ho7, ho8, ho9, ho10]; rfl), rfl, _, hM, (chg_sx (by decide) (chg_sx (by decide) chg.rf)), rfl, rfl⟩) rfl dX11_keepsNameRules_154
                    · exact False.elim (by first | omega | exact h80 rfl)
              · refine z_re (y := zI ((q9 : Nat) : Int)) (by rw [ho9]; rfl) ?_
                have hob9 : q9 ≤ n := x9_b hp ho9
                refine z_callV C (As := [zN 9, zN q9]) (rest := []) (c_X10_keeps l Z hM (zI 9) (((q9 : Nat) : Int)) (by omega)) hM.ver rfl ⟨⟨zw_14_2, zw_1_14, zw_13_23⟩, zd_X10_keeps⟩ zw_14_0 zw_14_1 ⟨Nat.le_of_ble_eq_true rfl, Nat.le_of_ble_eq_true rfl⟩ ⟨rfl, rfl⟩ rfl hl.1 rfl (Nat.le_of_ble_eq_true rfl) dX11_keepsNameRules_61 ⟨Nat.zero_le _, Nat.zero_le _⟩ hS (fun _ h => h) (fun v H locs hp_ hS _ _ => ?_)
                obtain ⟨kp1, kp2⟩ := hp_
                obtain ⟨rfl, hM⟩ := kp2 (by omega)
                refine y_if_eq (tgt := 153) C (a := 0) dX11_keepsNameRules_64 (by decide) (by omega) (fun h64 => ?_) (fun h64 => ?_)
                · refine lv_iconst (v := zI 0) C.1 C.2.1 dX11_keepsNameRules_153 (by decide) ?_
                  exact hret _ _ _ _ (zI 0) hS (Or.inr ⟨_, _, (by unfold xRest; rw [ho6, ho7, ho8, ho9]; rfl), rfl, _, hM, (chg_sx (by decide) (chg_sx (by decide) chg.rf)), rfl, rfl⟩) rfl dX11_keepsNameRules_154
                · exact False.elim (by first | omega | exact h64 rfl)
          · refine z_re (y := zI ((q8 : Nat) : Int)) (by rw [ho8]; rfl) ?_
            have hob8 : q8 ≤ n := x8_b p6 ho8
            refine z_callV C (As := [zN 8, zN q8]) (rest := []) (c_X10_keeps l Z hM (zI 8) (((q8 : Nat) : Int)) (by omega)) hM.ver rfl ⟨⟨zw_14_2, zw_1_14, zw_13_23⟩, zd_X10_keeps⟩ zw_14_0 zw_14_1 ⟨Nat.le_of_ble_eq_true rfl, Nat.le_of_ble_eq_true rfl⟩ ⟨rfl, rfl⟩ rfl hl.1 rfl (Nat.le_of_ble_eq_true rfl) dX11_keepsNameRules_45 ⟨Nat.zero_le _, Nat.zero_le _⟩ hS (fun _ h => h) (fun v H locs hp_ hS _ _ => ?_)
            obtain ⟨kp1, kp2⟩ := hp_
            obtain ⟨rfl, hM⟩ := kp2 (by omega)
            refine y_if_eq (tgt := 153) C (a := 0) dX11_keepsNameRules_48 (by decide) (by omega) (fun h48 => ?_) (fun h48 => ?_)
            · refine lv_iconst (v := zI 0) C.1 C.2.1 dX11_keepsNameRules_153 (by decide) ?_
              exact hret _ _ _ _ (zI 0) hS (Or.inr ⟨_, _, (by unfold xRest; rw [ho6, ho7, ho8]; rfl), rfl, _, hM, (chg_sx (by decide) (chg_sx (by decide) chg.rf)), rfl, rfl⟩) rfl dX11_keepsNameRules_154
            · exact False.elim (by first | omega | exact h48 rfl)
      · refine z_re (y := zI ((q7 : Nat) : Int)) (by rw [ho7]; rfl) ?_
        have hob7 : q7 ≤ n := x7_b hp ho7
        refine z_callV C (As := [zN 7, zN q7]) (rest := []) (c_X10_keeps l Z hM (zI 7) (((q7 : Nat) : Int)) (by omega)) hM.ver rfl ⟨⟨zw_14_2, zw_1_14, zw_13_23⟩, zd_X10_keeps⟩ zw_14_0 zw_14_1 ⟨Nat.le_of_ble_eq_true rfl, Nat.le_of_ble_eq_true rfl⟩ ⟨rfl, rfl⟩ rfl hl.1 rfl (Nat.le_of_ble_eq_true rfl) dX11_keepsNameRules_29 ⟨Nat.zero_le _, Nat.zero_le _⟩ hS (fun _ h => h) (fun v H locs hp_ hS _ _ => ?_)
        obtain ⟨kp1, kp2⟩ := hp_
        obtain ⟨rfl, hM⟩ := kp2 (by omega)
        refine y_if_eq (tgt := 153) C (a := 0) dX11_keepsNameRules_32 (by decide) (by omega) (fun h32 => ?_) (fun h32 => ?_)
        · refine lv_iconst (v := zI 0) C.1 C.2.1 dX11_keepsNameRules_153 (by decide) ?_
          exact hret _ _ _ _ (zI 0) hS (Or.inr ⟨_, _, (by unfold xRest; rw [ho6, ho7]; rfl), rfl, _, hM, (chg_sx (by decide) (chg_sx (by decide) chg.rf)), rfl, rfl⟩) rfl dX11_keepsNameRules_154
        · exact False.elim (by first | omega | exact h32 rfl)
  · refine z_re (y := zI ((q6 : Nat) : Int)) (by rw [ho6]; rfl) ?_
    have hob6 : q6 ≤ n := x6_b p4 hn ho6
    refine z_callV C (As := [zN 6, zN q6]) (rest := []) (c_X10_keeps l Z hM (zI 6) (((q6 : Nat) : Int)) (by omega)) hM.ver rfl ⟨⟨zw_14_2, zw_1_14, zw_13_23⟩, zd_X10_keeps⟩ zw_14_0 zw_14_1 ⟨Nat.le_of_ble_eq_true rfl, Nat.le_of_ble_eq_true rfl⟩ ⟨rfl, rfl⟩ rfl hl.1 rfl (Nat.le_of_ble_eq_true rfl) dX11_keepsNameRules_13 ⟨Nat.zero_le _, Nat.zero_le _⟩ hS (fun _ h => h) (fun v H locs hp_ hS _ _ => ?_)
    obtain ⟨kp1, kp2⟩ := hp_
    obtain ⟨rfl, hM⟩ := kp2 (by omega)
    refine y_if_eq (tgt := 153) C (a := 0) dX11_keepsNameRules_16 (by decide) (by omega) (fun h16 => ?_) (fun h16 => ?_)
    · refine lv_iconst (v := zI 0) C.1 C.2.1 dX11_keepsNameRules_153 (by decide) ?_
      exact hret _ _ _ _ (zI 0) hS (Or.inr ⟨_, _, (by unfold xRest; rw [ho6]; rfl), rfl, _, hM, (chg_sx (by decide) (chg_sx (by decide) chg.rf)), rfl, rfl⟩) rfl dX11_keepsNameRules_154
    · exact False.elim (by first | omega | exact h16 rfl)
