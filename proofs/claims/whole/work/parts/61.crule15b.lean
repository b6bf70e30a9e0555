/-! the component: rule 15, all methods -/
/-- what a body that keeps rules 13 and 14 gives -/
def bOk (F : Nat → Nat) (a : Nat) : Prop := 1 ≤ cS F a ∧ cS F a ≤ 1200 ∧ U2 F (a + 6) ≤ 24 ∧ U2 F (a + 8) ≤ 24 ∧ cN F a ≤ 16 ∧ cH F a + 8 * cN F a + 2 ≤ cE F a ∧ cH F a = a + 14 + cS F a + 2
theorem xKb_n {F : Nat → Nat} {a par : Nat} (hF : isF F) (h : xKb F (cE F a) a par = none) : bOk F a := by
  unfold xKb at h
  cases e1 : xCd F (cE F a) a par with
  | error z => rw [e1] at h; cases h
  | ok q =>
    rw [e1] at h
    obtain ⟨a1, a2, a3, a4, a5, a6, a7⟩ := xCd_ok hF e1
    simp only at h
    cases e2 : xCt F (cE F a) q with
    | error z => rw [e2] at h; cases h
    | ok q2 =>
      rw [e2] at h
      obtain ⟨b1, b2, b3⟩ := xCt_ok e2
      simp only at h
      cases e3 : aAs F (cE F a) 14 q2 with
      | error z => rw [e3] at h; cases h
      | ok q3 =>
        subst a1
        have c1 : q2 + 2 ≤ cE F a := by
          unfold aAs at e3
          by_cases z : q2 + 2 ≤ cE F a
          · exact z
          · rw [if_neg z] at e3; cases e3
        refine ⟨a3, a4, a5, a7, b3, ?_, rfl⟩
        show a + 14 + cS F a + 2 + 8 * U2 F (a + 14 + cS F a) + 2 ≤ cE F a
        omega
theorem x13_b {F tb mt : Nat → Nat} {pc nf nm i : Nat} (hF : isF F) (h : fst2 (x13f F tb mt nf) nm 0 = none) (h10 : x10 F tb pc mt nf (nf + nm) = none) (hi : i < nm) : bOk F (cP F tb mt nf i) := by
  have e := fst2_none _ _ h i (Nat.zero_le _) (by omega)
  have p := x10_pp h10 hi
  unfold x13f at e
  rw [paN_pp p.1, ← xKb_x hF] at e
  exact xKb_n hF e
theorem nWh_le {F : Nat → Nat} {ca sz : Nat} (h : x15 F ca sz = none) : nWh F ca sz ≤ sz := isWh_le (isWh_of h)
theorem nB_s (F tb mt : Nat → Nat) (nf i : Nat) : nB F tb mt nf (i + 1) = nB F tb mt nf i + nWf F tb mt nf i := rfl
theorem nB_mono {F tb mt : Nat → Nat} {nf j : Nat} : ∀ i, j < i → nB F tb mt nf j + nWf F tb mt nf j ≤ nB F tb mt nf i := by
  intro i
  induction i with
  | zero => intro h; omega
  | succ i ih =>
    intro h
    rw [nB_s]
    rcases Nat.lt_or_eq_of_le (Nat.le_of_lt_succ h) with z | z
    · have := ih z; omega
    · subst z; exact Nat.le_refl _
/-- the instructions before method i take no more rows than octets before its code -/
theorem nBle {F tb mt : Nat → Nat} {n cl nf nm fa last : Nat} (hp : pLay F n tb cl nf nm mt fa last) (h12 : x12 F tb mt nf (nf + nm) = none) (hb : ∀ i, i < nm → bOk F (cP F tb mt nf i)) : ∀ i, i < nm → (∀ j, j < i → x15f F tb mt nf j = none) → nB F tb mt nf i ≤ cP F tb mt nf i + 14 := by
  intro i
  induction i with
  | zero => intro _ _; exact Nat.zero_le _
  | succ i ih =>
    intro hi h15
    have a := ih (by omega) (fun j hj => h15 j (by omega))
    have b := nWh_le (h15 i (by omega))
    have c := cP_in hp h12 (i := i) (by omega)
    have d := cP_in hp h12 (i := i + 1) hi
    have e := (hp.2.2.2.2.2.2.2.2.2.1 (nf + i) (by omega) (by omega)).2.2 (by omega)
    have f := hb i (by omega)
    rw [nB_s]
    have b' : nWf F tb mt nf i ≤ cS F (cP F tb mt nf i) := b
    have f1 := f.2.2.2.2.2.1
    have f2 := f.2.2.2.2.2.2
    have e' : mt (nf + (i + 1)) = atp F (mt (nf + i) + 6) (U2 F (mt (nf + i) + 6)) := e
    omega
def cR (F tb mt : Nat → Nat) (nf : Nat) (τ : mS) (i : Nat) : Prop := τ.2.1 28 i = zI (nB F tb mt nf i : Int) ∧ τ.2.1 29 i = zI (nWf F tb mt nf i : Int) ∧ ∀ t, t < nWf F tb mt nf i → τ.2.1 14 (nB F tb mt nf i + t) = zI ((cP F tb mt nf i + 14 + stF F (cP F tb mt nf i + 14) (cS F (cP F tb mt nf i)) t : Nat) : Int)

theorem xWh_b {F : Nat → Nat} {ca sz q : Nat} : ∀ fu k, xWh F ca sz fu k = some q → q < ca + sz := by
  intro fu
  induction fu with
  | zero => intro k h; cases h
  | succ fu ih =>
    intro k h
    by_cases a : k < sz
    · by_cases b : 0 < spR F ca sz k
      · rw [xWh_s a b] at h; exact ih _ h
      · rw [xWh_f a b] at h; cases h; omega
    · rw [xWh_n a] at h; cases h
theorem x15_b {F : Nat → Nat} {ca sz q n : Nat} (h : x15 F ca sz = some q) (hn : ca + sz ≤ n) : q ≤ n := by
  have := xWh_b _ _ h
  omega

theorem cR_s {F tb mt : Nat → Nat} {nf i : Nat} {τ1 τ2 : mS} (h : ∀ j, j < i → cR F tb mt nf τ1 j) (hw : ∀ r j, r ≠ 14 → r ≠ 29 → τ2.2.1 r j = (sb9 τ1 8 i (zI (nB F tb mt nf i : Int))).2.1 r j) (hw29 : ∀ j, j ≠ i → τ2.2.1 29 j = (sb9 τ1 8 i (zI (nB F tb mt nf i : Int))).2.1 29 j) (hw14 : ∀ j, j < nB F tb mt nf i → τ2.2.1 14 j = (sb9 τ1 8 i (zI (nB F tb mt nf i : Int))).2.1 14 j)
    (hf : τ2.2.1 29 i = zI (nWh F (cP F tb mt nf i + 14) (cS F (cP F tb mt nf i)) : Int) ∧ ∀ t, t < nWh F (cP F tb mt nf i + 14) (cS F (cP F tb mt nf i)) → τ2.2.1 14 (nB F tb mt nf i + t) = zI ((cP F tb mt nf i + 14 + stF F (cP F tb mt nf i + 14) (cS F (cP F tb mt nf i)) t : Nat) : Int)) : ∀ j, j < i + 1 → cR F tb mt nf τ2 j := by
  intro j hj
  rcases Nat.lt_succ_iff_lt_or_eq.mp hj with z | z
  · obtain ⟨a1, a2, a3⟩ := h j z
    have m := nB_mono (F := F) (tb := tb) (mt := mt) (nf := nf) i z
    refine ⟨?_, ?_, fun t ht => ?_⟩
    · rw [hw 28 j (by decide) (by decide)]; exact (sb9_m _ _ _ (by omega)).trans a1
    · rw [hw29 j (by omega), sb9_k _ _ _ (by decide)]; exact a2
    · rw [hw14 _ (by omega), sb9_k _ _ _ (by decide)]; exact a3 t ht
  · subst z
    exact ⟨(hw 28 j (by decide) (by decide)).trans (sb9_at τ1 8 j _), hf.1, hf.2⟩

set_option maxHeartbeats 4000000 in
set_option maxRecDepth 20000 in
theorem c_X5_wrongInstruction (l : Launch) (Z : zT) {H : Heap} {ad : Nat → Nat} {τ : mS} {X : List (Nat × va_E)} (hM : isC Z H ad τ X) {F : Nat → Nat} {n : Nat} (hB : cSrc τ F n) {tb mt : Nat → Nat} {cl nf nm fa last : Nat} (hL : cLay τ F tb cl nf nm mt fa last) (hp : pLay F n tb cl nf nm mt fa last) (hx12 : x12 F tb mt nf (nf + nm) = none) (hbo : ∀ i, i < nm → bOk F (cP F tb mt nf i)) (hbv : ∀ i, i < nm → bdV F (cP F tb mt nf i) τ i) : zM l Z yX5_wrongInstruction cX5_wrongInstruction 5 (some .int) (rmk 6) [.ref (ad 0)] H (cA ad) 0 0 (fun v H' => v = some (zV (oI (fst1 (x15f F tb mt nf) nm 0))) ∧ ∃ τ' : mS, isC Z H' ad τ' X ∧ chg [] [14, 28, 29] τ τ' ∧ (fst1 (x15f F tb mt nf) nm 0 = none → ∀ i, i < nm → cR F tb mt nf τ' i)) := by
  have hn := hB.2.2.2
  have hP := hL.1
  obtain ⟨p1, p2, p3, p4, p5, p6, p7, p8, p9, p10, p11, p12⟩ := id hp
  obtain ⟨q1, q2, q3, q4, q5, q6, q7, q8, q9⟩ := id hL
  refine zM.introI (own := RX5) ⟨by decide, rfl⟩ (Nat.le_of_ble_eq_true rfl) ?_
  intro p e s m args below meth c Q ls hH C hl hret
  have hS : va_S (cA ad) s.heap H [] := by rw [hH]; exact va_S.rf
  have hl : lv_has ls 5 [(0, .ref (ad 0))] := hl
  refine lv_iconst (v := zI 0) C.1 C.2.1 dX5_wrongInstruction_0 (by decide) ?_
  refine lv_istore_n (lv' := [(1, zN 0), (0, .ref (ad 0))]) C.1 C.2.1 dX5_wrongInstruction_1 rfl hl (by decide) rfl (fun ls hl => ?_)
  refine lv_iconst (v := zI 0) C.1 C.2.1 dX5_wrongInstruction_2 (by decide) ?_
  refine lv_istore_n (lv' := [(2, zN 0), (1, zN 0), (0, .ref (ad 0))]) C.1 C.2.1 dX5_wrongInstruction_3 rfl hl (by decide) rfl (fun ls hl => ?_)
  have loop : ∀ (fu : Nat) (i : Nat) (τ1 : mS) (H : Heap) (ls : Array Slot) (locs : List Loc), va_S (cA ad) s.heap H locs → isC Z H ad τ1 X → (i ≤ nm ∧ nm < i + fu) → (chg [] [14, 28, 29] τ τ1) → (cSrc τ1 F n) → (∀ j, j < i → x15f F tb mt nf j = none) → (∀ j, j < i → cR F tb mt nf τ1 j) → (nB F tb mt nf i ≤ 40000) → (fst1 (x15f F tb mt nf) (nm - i) i = fst1 (x15f F tb mt nf) nm 0) → lv_has ls 5 [(2, zN i), (1, zN (nB F tb mt nf i)), (0, .ref (ad 0))] → W p l e (rmk 6) s m args below meth c H locs 0 0 Q (F0 m 4 ls []) := by
    intro fu
    induction fu with
    | zero =>
      intro i τ1 H ls locs hS hM hi hc hB h15 hrr hbd he hl
      (exact absurd hi.2 (by omega))
    | succ fu ih_loop =>
      intro i τ1 H ls locs hS hM hi hc hB h15 hrr hbd he hl
      refine lv_iload_n C.1 C.2.1 dX5_wrongInstruction_4 rfl (lv_at hl 0 rfl) ?_
      refine lv_aload_n C.1 C.2.1 dX5_wrongInstruction_5 rfl (lv_at hl 2 rfl) ?_
      refine z_get C (v := .int (τ1.1 3)) hM.img rfl bi_wsX20 7 (by decide) zw_20_8 rfl rfl dX5_wrongInstruction_6 ?_
      refine z_re (y := zI ((nm : Nat) : Int)) ((hc.1 3 (by decide)).trans hL.2.2.2.1) ?_
      refine y_icmp_ge (tgt := 65) C (a := ((i : Nat) : Int)) (b := ((nm : Nat) : Int)) dX5_wrongInstruction_9 (by decide) (by omega) (fun h9 => ?_) (fun h9 => ?_)
      · refine lv_iconst (v := zI (-1)) C.1 C.2.1 dX5_wrongInstruction_65 (by decide) ?_
        exact hret _ _ _ _ (zI (-1)) hS ⟨congrArg (fun x : Int => some (zV x)) (by rw [← he, show nm - i = 0 by omega]; rfl), τ1, hM, hc, fun _ j hj => hrr j (by omega)⟩ rfl dX5_wrongInstruction_66
      · have hx3 : τ1.1 3 = zI (nm : Int) := (hc.1 3 (by decide)).trans hL.2.2.2.1
        have hnm : nm ≤ 24 := p8
        have hv := hbv i (by omega)
        obtain ⟨o1, o2, o3, o4, o5, o6, o7⟩ := hbo i (by omega)
        have hci := cP_in hp hx12 (i := i) (by omega)
        have hnb := nBle hp hx12 hbo i (by omega) h15
        refine lv_aload_n C.1 C.2.1 dX5_wrongInstruction_12 rfl (lv_at hl 2 rfl) ?_
        refine lv_iload_n C.1 C.2.1 dX5_wrongInstruction_13 rfl (lv_at hl 0 rfl) ?_
        refine z_readV C (As := [zN i]) (rest := []) (c_bodyOf l Z hM hx3 hnm i rfl (by omega)) hM.img rfl ⟨⟨zw_16_18, zw_1_18, zw_20_12⟩, zd_X2_bodyOf⟩ zw_16_16 zw_16_17 ⟨Nat.le_of_ble_eq_true rfl, Nat.le_of_ble_eq_true rfl⟩ ⟨rfl, rfl⟩ rfl hl.1 rfl (Nat.le_of_ble_eq_true rfl) dX5_wrongInstruction_14 ⟨Nat.zero_le _, Nat.zero_le _⟩ hS (fun locs hS => ?_)
        refine lv_astore_n (lv' := [(3, .ref (ad (16 + i))), (2, zN i), (1, zN (nB F tb mt nf i)), (0, .ref (ad 0))]) C.1 C.2.1 dX5_wrongInstruction_17 rfl hl (by decide) rfl (fun ls hl => ?_)
        refine lv_aload_n C.1 C.2.1 dX5_wrongInstruction_18 rfl (lv_at hl 0 rfl) ?_
        refine lv_ifnonnull (tgt := 31) C.1 C.2.1 dX5_wrongInstruction_19 (by decide) ?_
        refine lv_aload_n C.1 C.2.1 dX5_wrongInstruction_31 rfl (lv_at hl 0 rfl) ?_
        refine lv_iload_n C.1 C.2.1 dX5_wrongInstruction_32 rfl (lv_at hl 2 rfl) ?_
        refine z_put C (v := zN (nB F tb mt nf i)) tyX0 (hM.bod i (by omega)) rfl bi_wsX00 tyX0_ok nmX0 8 (by decide) zw_20_10 rfl rfl rfl rfl (Nat.le_of_ble_eq_true rfl) hS (cA.k _ (by omega)) dX5_wrongInstruction_33 (fun H locs hu hn hS => ?_)
        have hM := hM.sb (m := i) (by omega) 8 (by decide) hu hn
        have hB : cSrc (sb9 τ1 8 i (zI ((nB F tb mt nf i : Nat) : Int))) F n := hB.sf (by decide)
        refine lv_aload_n C.1 C.2.1 dX5_wrongInstruction_36 rfl (lv_at hl 3 rfl) ?_
        refine lv_aload_n C.1 C.2.1 dX5_wrongInstruction_37 rfl (lv_at hl 0 rfl) ?_
        refine z_callS C (As := [.ref (ad 0), .ref (ad (16 + i))]) (rest := []) (c_X5_cutIntoRows l Z hM hB (ca := cP F tb mt nf i + 14) (sz := cS F (cP F tb mt nf i)) (f0 := nB F tb mt nf i) (bm := i) (by omega) (by omega) (by omega) (by omega) ((congrFun (sb9_k τ1 (k := 8) (j := 24) i _ (by decide)) i).trans ((congrFun (hc.2.1 24 (by decide)) i).trans hv.2.2.1)) ((congrFun (sb9_k τ1 (k := 8) (j := 25) i _ (by decide)) i).trans ((congrFun (hc.2.1 25 (by decide)) i).trans hv.2.2.2.1)) (sb9_at τ1 8 i _)) ⟨⟨zw_20_15, zw_20_6, zw_20_13⟩, zd_X5_cutIntoRows⟩ zw_20_14 ⟨Nat.le_of_ble_eq_true rfl, Nat.le_of_ble_eq_true rfl⟩ ⟨rfl, rfl⟩ rfl hl.1 rfl (Nat.le_of_ble_eq_true rfl) dX5_wrongInstruction_38 ⟨Nat.zero_le _, Nat.zero_le _⟩ hS (fun _ h => h) (fun v H locs hp hS _ _ => ?_)
        obtain ⟨rfl, τ2, hM, hc2, hw, hw29, hw14, hfin⟩ := hp
        rcases oI_c (x15 F (cP F tb mt nf i + 14) (cS F (cP F tb mt nf i))) with ho | ⟨q, ho⟩
        · refine z_re (y := zI (-1)) (by rw [ho]; rfl) ?_
          have hB := hB.chg hc2 (by decide) (by decide)
          have hwl := nWh_le ho
          have hwl : nWf F tb mt nf i ≤ cS F (cP F tb mt nf i) := hwl
          refine lv_istore (lv' := [(4, zV (-1)), (3, .ref (ad (16 + i))), (2, zN i), (1, zN (nB F tb mt nf i)), (0, .ref (ad 0))]) C.1 C.2.1 dX5_wrongInstruction_41 hl (by decide) rfl (fun ls hl => ?_)
          refine lv_iload C.1 C.2.1 dX5_wrongInstruction_43 (lv_at hl 0 rfl) ?_
          refine lv_iconst (v := zI (-1)) C.1 C.2.1 dX5_wrongInstruction_45 (by decide) ?_
          refine y_icmp_eq (tgt := 52) C (a := -1) (b := -1) dX5_wrongInstruction_46 (by decide) (by omega) (fun h46 => ?_) (fun h46 => ?_)
          · refine lv_iload_n C.1 C.2.1 dX5_wrongInstruction_52 rfl (lv_at hl 3 rfl) ?_
            refine lv_aload_n C.1 C.2.1 dX5_wrongInstruction_53 rfl (lv_at hl 1 rfl) ?_
            refine z_get C (v := .int (τ2.2.1 29 i)) (hM.bod i (by omega)) rfl bi_wsX00 9 (by decide) zw_20_11 rfl rfl dX5_wrongInstruction_54 ?_
            refine z_re (y := zI ((nWf F tb mt nf i : Nat) : Int)) ((hfin ho).1) ?_
            refine y_iaddN C (a := nB F tb mt nf i) (b := nWf F tb mt nf i) dX5_wrongInstruction_57 ?_
            refine z_re (y := zI ((nB F tb mt nf (i + 1) : Nat) : Int)) (zI_c (by rw [nB_s])) ?_
            refine lv_istore_n (lv' := [(1, zN (nB F tb mt nf (i + 1))), (4, zV (-1)), (3, .ref (ad (16 + i))), (2, zN i), (0, .ref (ad 0))]) C.1 C.2.1 dX5_wrongInstruction_58 rfl hl (by decide) rfl (fun ls hl => ?_)
            refine lv_iinc (v := zI ((i + 1 : Nat) : Int)) (lv' := [(2, zN (i + 1)), (1, zN (nB F tb mt nf (i + 1))), (4, zV (-1)), (3, .ref (ad (16 + i))), (0, .ref (ad 0))]) C.1 C.2.1 dX5_wrongInstruction_59 hl (k := 3) rfl (zI_add _ _) (by decide) rfl (fun ls hl => ?_)
            refine lv_goto (tgt := 4) C.1 C.2.1 dX5_wrongInstruction_62 (by decide) ?_
            exact ih_loop (i + 1) _ _ ls _ hS hM (by omega) ((chg_sf (by decide) hc).tr (hc2.mono (by decide) (by decide))) hB (fun j hj => by rcases Nat.lt_succ_iff_lt_or_eq.mp hj with h | h; (exact h15 j h); (subst h; exact ho)) (cR_s hrr hw hw29 hw14 (hfin ho)) (by rw [nB_s]; omega) (by rw [← he, show nm - i = (nm - (i + 1)) + 1 by omega, fst1_s (g := x15f F tb mt nf) ho]) (lv_sub hl [0, 1, 4] rfl)
          · exact False.elim (by first | omega | exact h46 rfl)
        · refine z_re (y := zI ((q : Nat) : Int)) (by rw [ho]; rfl) ?_
          have hqb := x15_b ho (n := n) (by omega)
          refine lv_istore (lv' := [(4, zN q), (3, .ref (ad (16 + i))), (2, zN i), (1, zN (nB F tb mt nf i)), (0, .ref (ad 0))]) C.1 C.2.1 dX5_wrongInstruction_41 hl (by decide) rfl (fun ls hl => ?_)
          refine lv_iload C.1 C.2.1 dX5_wrongInstruction_43 (lv_at hl 0 rfl) ?_
          refine lv_iconst (v := zI (-1)) C.1 C.2.1 dX5_wrongInstruction_45 (by decide) ?_
          refine y_icmp_eq (tgt := 52) C (a := ((q : Nat) : Int)) (b := -1) dX5_wrongInstruction_46 (by decide) (by omega) (fun h46 => ?_) (fun h46 => ?_)
          · exact False.elim (by first | omega | exact h46 rfl)
          · refine lv_iload C.1 C.2.1 dX5_wrongInstruction_49 (lv_at hl 0 rfl) ?_
            exact hret _ _ _ _ (zI ((q : Nat) : Int)) hS ⟨congrArg (fun x : Int => some (zV x)) (by rw [← he, show nm - i = (nm - (i + 1)) + 1 by omega, fst1_e (g := x15f F tb mt nf) ho]; rfl), τ2, hM, ((chg_sf (by decide) hc).tr (hc2.mono (by decide) (by decide))), fun z => absurd z (by rw [← he, show nm - i = (nm - (i + 1)) + 1 by omega, fst1_e (g := x15f F tb mt nf) ho]; simp)⟩ rfl dX5_wrongInstruction_51
  exact loop (nm + 1) 0 _ _ ls _ hS hM (by omega) chg.rf hB (fun j hj => by omega) (fun j hj => by omega) (by show 0 ≤ 40000; omega) rfl hl
