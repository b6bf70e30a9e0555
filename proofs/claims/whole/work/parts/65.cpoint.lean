/-! the component: rule 16 for instructions -/
theorem tgP_rg {F : Nat → Nat} (hF : isF F) (ca q k : Nat) : -2147483648 ≤ tgP F ca q k ∧ tgP F ca q k < 2147483648 := by unfold tgP; split <;> exact S4_rg hF _
def swL (F : Nat → Nat) (ca sz : Nat) (na : Nat → Int) (q b M t : Nat) : Bool := if t = 0 then swG F ca sz na q b M else swA F ca sz na q b (M + 1 - t) (t - 1)
theorem swL_c {F : Nat → Nat} {ca sz : Nat} {na : Nat → Int} {q M t : Nat} (h : t ≤ M) : swL F ca sz na q (F (ca + q)) M t = if ptOk sz na ((q : Int) + tgP F ca q t) = true then swL F ca sz na q (F (ca + q)) M (t + 1) else false := by
  unfold swL tgP
  rw [if_neg (show ¬ t + 1 = 0 by omega), show M + 1 - (t + 1) = M - t by omega, show t + 1 - 1 = t by omega]
  by_cases z : t = 0
  · subst z
    rw [if_pos rfl, if_pos rfl]
    rfl
  · rw [if_neg z, if_neg z, show M + 1 - t = (M - t) + 1 by omega]
    conv => lhs; unfold swA
    rw [show t - 1 + 1 = t by omega]
theorem swL_e {F : Nat → Nat} {ca sz : Nat} {na : Nat → Int} {q b M t : Nat} (h : M < t) : swL F ca sz na q b M t = true := by
  unfold swL
  rw [if_neg (by omega), show M + 1 - t = 0 by omega]
  rfl
theorem sp_b {F : Nat → Nat} {ca sz q : Nat} (h : 0 < spR F ca sz q) (hq : q < sz) : vI F (ca + q) ∧ (F (ca + q) = 196 → q + 4 ≤ sz) ∧ (F (ca + q) ≠ 196 → F (ca + q) ≠ 170 → F (ca + q) ≠ 171 → (q : Int) + spM (F (ca + q)) ≤ sz) := by
  have R0 : spR F ca sz q = if spX F ca sz q ≤ 0 ∨ (sz : Int) < q + spX F ca sz q then -1 else if F (ca + q) = 188 ∧ F (ca + (q + 1)) ≠ 10 then -1 else spX F ca sz q := rfl
  have X0 : 0 < spX F ca sz q ∧ (q : Int) + spX F ca sz q ≤ sz := by
    rw [R0] at h
    by_cases a : spX F ca sz q ≤ 0 ∨ (sz : Int) < q + spX F ca sz q
    · rw [if_pos a] at h; omega
    · omega
  by_cases a : F (ca + q) = 196
  · have e : sp1 F ca sz q = if q + 1 < sz then wdN (F (ca + (q + 1))) else 0 := by unfold sp1; rw [a, if_pos (by decide)]
    have w := wdN_c (F (ca + (q + 1)))
    have e2 : spX F ca sz q = sp1 F ca sz q := by unfold spX; rw [if_neg (by rw [e]; split <;> omega)]
    rw [e2, e] at X0
    refine ⟨fun _ => ?_, fun _ => ?_, fun z => absurd a z⟩
    · by_cases b : q + 1 < sz
      · rw [if_pos b] at X0
        show wdN (F (ca + (q + 1))) ≠ 0
        omega
      · rw [if_neg b] at X0; omega
    · by_cases b : q + 1 < sz
      · rw [if_pos b] at X0; omega
      · rw [if_neg b] at X0; omega
  · refine ⟨fun z => absurd z a, fun z => absurd z a, fun _ b c => ?_⟩
    have n2 : spM (F (ca + q)) ≠ -2 := by
      unfold spM
      (repeat' split) <;> omega
    have n1 : spM (F (ca + q)) ≠ -1 := by
      unfold spM
      (repeat' split) <;> omega
    have e : sp1 F ca sz q = spM (F (ca + q)) := by unfold sp1; rw [if_neg n2]
    have e2 : spX F ca sz q = spM (F (ca + q)) := by unfold spX; rw [e, if_neg n1]
    rw [e2] at X0
    exact X0.2
theorem spM_3 {b : Nat} (h : b = 19 ∨ b = 20 ∨ b = 178 ∨ b = 179 ∨ b = 184 ∨ (153 ≤ b ∧ b ≤ 167) ∨ b = 198 ∨ b = 199) : spM b = 3 := by
  have : ∀ b, b < 256 → (b = 19 ∨ b = 20 ∨ b = 178 ∨ b = 179 ∨ b = 184 ∨ (153 ≤ b ∧ b ≤ 167) ∨ b = 198 ∨ b = 199) → spM b = 3 := by decide +kernel
  exact this b (by omega) h
theorem ins_jp {F tb mt : Nat → Nat} {cl nf nm ca sz ml q : Nat} {na : Nat → Int} (h : (153 ≤ F (ca + q) ∧ F (ca + q) ≤ 167) ∨ F (ca + q) = 198 ∨ F (ca + q) = 199 ∨ F (ca + q) = 200) : insOk F tb mt cl nf nm ca sz ml na q (F (ca + q)) = ptOk sz na ((q : Int) + jpO F (ca + q)) := by
  unfold jpO
  by_cases z : F (ca + q) = 200
  · rw [if_pos z, ins_200 z]
  · rw [if_neg z, ins_jmp (by omega)]
theorem jpO_rg {F : Nat → Nat} (hF : isF F) (p : Nat) : -2147483648 ≤ jpO F p ∧ jpO F p < 2147483648 := by
  have a := S4_rg hF (p + 1)
  have b := S2_rg hF (p + 1)
  unfold jpO; split <;> omega
theorem mbC_9' {F tb mt : Nat → Nat} {cl nf nm k : Nat} (h : isE F tb (U2 F 8) k 9 = true) : mbC F tb mt cl nf nm k = mbR F tb mt (U2 F 8) cl nf nm k 9 := if_pos (isE_t h).2.2
theorem mbC_10' {F tb mt : Nat → Nat} {cl nf nm k : Nat} (h : isE F tb (U2 F 8) k 10 = true) : mbC F tb mt cl nf nm k = mbR F tb mt (U2 F 8) cl nf nm k 10 := by
  unfold mbC
  rw [if_neg (show ¬ tg F tb k = 9 by have := (isE_t h).2.2; omega), if_pos (isE_t h).2.2]
theorem mbR_no {F tb mt : Nat → Nat} {pc cl nf nm k g : Nat} (h : isE F tb pc k g = false) : mbR F tb mt pc cl nf nm k g = -1 := by
  unfold mbR
  rw [if_neg (fun z => by rw [z.1] at h; cases h)]

set_option maxHeartbeats 4000000 in
set_option maxRecDepth 20000 in
theorem c_X5_targetsPointWell (l : Launch) (Z : zT) {H : Heap} {ad : Nat → Nat} {τ : mS} {X : List (Nat × va_E)} (hM : isC Z H ad τ X) {F : Nat → Nat} {n : Nat} (hB : cSrc τ F n) {ca sz ml ch cn f0 N bm : Nat} (hm : cMt τ F n ca sz ml ch cn f0 N bm) {q M : Nat} (hq : q < sz) (hsM : swIn F n ca q M) : zP l Z yX5_targetsPointWell cX5_targetsPointWell 5 (some .boolean) (rmk 4) [.ref (ad 0), .ref (ad (16 + bm)), zN (ca + q)] H (zV (bI (swG F ca sz (nbR F ca sz N) q (F (ca + q)) M))) := by
  have hn := hB.2.2.2
  obtain ⟨m1, m2, m3, m4, m5, m6, m7, m8, m9, m10, m11, m12, m13, m14⟩ := id hm
  have hM201 : M ≤ 201 := by unfold swIn at hsM; omega
  refine zM.introI (own := RX5) ⟨by decide, rfl⟩ (Nat.le_of_ble_eq_true rfl) ?_
  intro p e s m args below meth c Q ls hH C hl hret
  have hS : va_S (fun _ => False) s.heap H [] := by rw [hH]; exact va_S.rf
  have hl : lv_has ls 5 [(0, .ref (ad 0)), (1, .ref (ad (16 + bm))), (2, zN (ca + q))] := hl
  refine lv_aload_n C.1 C.2.1 dX5_targetsPointWell_0 rfl (lv_at hl 0 rfl) ?_
  refine z_get C (v := .ref (ad 1)) hM.img rfl bi_wsX20 0 (by decide) zw_20_18 rfl rfl dX5_targetsPointWell_1 ?_
  refine lv_iload_n C.1 C.2.1 dX5_targetsPointWell_4 rfl (lv_at hl 2 rfl) ?_
  refine lv_aload_n C.1 C.2.1 dX5_targetsPointWell_5 rfl (lv_at hl 1 rfl) ?_
  refine z_get C (v := .int (τ.2.1 24 bm)) (hM.bod bm (by omega)) rfl bi_wsX00 4 (by decide) zw_20_16 rfl rfl dX5_targetsPointWell_6 ?_
  refine z_re (y := zI ((ca : Nat) : Int)) m8 ?_
  refine z_readS C (As := [.ref (ad 1), zN (ca + q), zN ca]) (rest := []) (c_X3_targetCount l Z hM hB (ca := ca) (q := q) (by omega) hsM) ⟨⟨zw_24_14, zw_20_22, zw_24_12⟩, zd_X3_targetCount⟩ zw_24_13 ⟨Nat.le_of_ble_eq_true rfl, Nat.le_of_ble_eq_true rfl⟩ ⟨rfl, rfl⟩ rfl hl.1 rfl (Nat.le_of_ble_eq_true rfl) dX5_targetsPointWell_9 ⟨Nat.zero_le _, Nat.zero_le _⟩ hS (fun locs hS => ?_)
  refine lv_istore_n (lv' := [(3, zN (M + 1)), (0, .ref (ad 0)), (1, .ref (ad (16 + bm))), (2, zN (ca + q))]) C.1 C.2.1 dX5_targetsPointWell_12 rfl hl (by decide) rfl (fun ls hl => ?_)
  refine lv_iconst (v := zI 0) C.1 C.2.1 dX5_targetsPointWell_13 (by decide) ?_
  refine lv_istore (lv' := [(4, zN 0), (3, zN (M + 1)), (0, .ref (ad 0)), (1, .ref (ad (16 + bm))), (2, zN (ca + q))]) C.1 C.2.1 dX5_targetsPointWell_14 hl (by decide) rfl (fun ls hl => ?_)
  have loop : ∀ (fu : Nat) (t : Nat) (ls : Array Slot) (locs : List Loc), va_S (fun _ => False) s.heap H locs → (t ≤ M + 1 ∧ M + 1 < t + fu) → (swL F ca sz (nbR F ca sz N) q (F (ca + q)) M t = swG F ca sz (nbR F ca sz N) q (F (ca + q)) M) → lv_has ls 5 [(4, zN t), (3, zN (M + 1)), (0, .ref (ad 0)), (1, .ref (ad (16 + bm))), (2, zN (ca + q))] → W p l e (rmk 4) s m args below meth c H locs 0 0 Q (F0 m 16 ls []) := by
    intro fu
    induction fu with
    | zero =>
      intro t ls locs hS ht he hl
      (exact absurd ht.2 (by omega))
    | succ fu ih_loop =>
      intro t ls locs hS ht he hl
      have htg := tgP_rg hB.1 ca q t
      refine lv_iload C.1 C.2.1 dX5_targetsPointWell_16 (lv_at hl 0 rfl) ?_
      refine lv_iload_n C.1 C.2.1 dX5_targetsPointWell_18 rfl (lv_at hl 1 rfl) ?_
      refine y_icmp_ge (tgt := 53) C (a := ((t : Nat) : Int)) (b := ((M + 1 : Nat) : Int)) dX5_targetsPointWell_19 (by decide) (by omega) (fun h19 => ?_) (fun h19 => ?_)
      · refine lv_iconst (v := zI 1) C.1 C.2.1 dX5_targetsPointWell_53 (by decide) ?_
        exact hret _ _ _ _ (zI 1) hS ⟨congrArg (fun x : Int => some (zV x)) (by rw [← he, swL_e (by omega)]; rfl), rfl⟩ rfl dX5_targetsPointWell_54
      · refine lv_aload_n C.1 C.2.1 dX5_targetsPointWell_22 rfl (lv_at hl 2 rfl) ?_
        refine lv_aload_n C.1 C.2.1 dX5_targetsPointWell_23 rfl (lv_at hl 3 rfl) ?_
        refine lv_aload_n C.1 C.2.1 dX5_targetsPointWell_24 rfl (lv_at hl 2 rfl) ?_
        refine z_get C (v := .ref (ad 1)) hM.img rfl bi_wsX20 0 (by decide) zw_20_18 rfl rfl dX5_targetsPointWell_25 ?_
        refine lv_iload_n C.1 C.2.1 dX5_targetsPointWell_28 rfl (lv_at hl 4 rfl) ?_
        refine lv_aload_n C.1 C.2.1 dX5_targetsPointWell_29 rfl (lv_at hl 3 rfl) ?_
        refine z_get C (v := .int (τ.2.1 24 bm)) (hM.bod bm (by omega)) rfl bi_wsX00 4 (by decide) zw_20_16 rfl rfl dX5_targetsPointWell_30 ?_
        refine z_re (y := zI ((ca : Nat) : Int)) m8 ?_
        refine lv_iload C.1 C.2.1 dX5_targetsPointWell_33 (lv_at hl 0 rfl) ?_
        refine z_readS C (As := [.ref (ad 1), zN (ca + q), zN ca, zN t]) (rest := [.ref (ad (16 + bm)), .ref (ad 0)]) (c_X3_targetPlace l Z hM hB (ca := ca) (q := q) (by omega) hsM (t := t) (by omega)) ⟨⟨zw_24_17, zw_20_22, zw_24_15⟩, zd_X3_targetPlace⟩ zw_24_16 ⟨Nat.le_of_ble_eq_true rfl, Nat.le_of_ble_eq_true rfl⟩ ⟨rfl, rfl⟩ rfl hl.1 rfl (Nat.le_of_ble_eq_true rfl) dX5_targetsPointWell_35 ⟨Nat.zero_le _, Nat.zero_le _⟩ hS (fun locs hS => ?_)
        refine z_readV C (As := [.ref (ad (16 + bm)), zV (((ca + q : Nat) : Int) + tgP F ca q t)]) (rest := []) (c_num l Z hM hm hn (T := ((ca + q : Nat) : Int) + tgP F ca q t) (t := (q : Int) + tgP F ca q t) (by omega) (by omega)) hM.img rfl ⟨⟨zw_24_3, zw_1_18, zw_24_0⟩, zd_X2_numberAt⟩ zw_24_1 zw_24_2 ⟨Nat.le_of_ble_eq_true rfl, Nat.le_of_ble_eq_true rfl⟩ ⟨rfl, rfl⟩ rfl hl.1 rfl (Nat.le_of_ble_eq_true rfl) dX5_targetsPointWell_38 ⟨Nat.zero_le _, Nat.zero_le _⟩ hS (fun locs hS => ?_)
        have hnc38 := numC_rg F ca sz N ((q : Int) + tgP F ca q t)
        have hnd38 := numC_c F ca sz N ((q : Int) + tgP F ca q t)
        refine lv_iconst (v := zI (-1)) C.1 C.2.1 dX5_targetsPointWell_41 (by decide) ?_
        refine y_icmp_ne (tgt := 47) C (a := numC F ca sz N ((q : Int) + tgP F ca q t)) (b := -1) dX5_targetsPointWell_42 (by decide) (by omega) (fun h42 => ?_) (fun h42 => ?_)
        · refine lv_iinc (v := zI ((t + 1 : Nat) : Int)) (lv' := [(4, zN (t + 1)), (3, zN (M + 1)), (0, .ref (ad 0)), (1, .ref (ad (16 + bm))), (2, zN (ca + q))]) C.1 C.2.1 dX5_targetsPointWell_47 hl (k := 0) rfl (zI_add _ _) (by decide) rfl (fun ls hl => ?_)
          refine lv_goto (tgt := 16) C.1 C.2.1 dX5_targetsPointWell_50 (by decide) ?_
          exact ih_loop (t + 1) ls _ hS (by omega) (by rw [← he, swL_c (t := t) (by omega), if_pos (by rcases hnd38 with z | z; (exact absurd z.1 h42); exact z.2)]) hl
        · refine lv_iconst (v := zI 0) C.1 C.2.1 dX5_targetsPointWell_45 (by decide) ?_
          exact hret _ _ _ _ (zI 0) hS ⟨congrArg (fun x : Int => some (zV x)) (by rw [← he, swL_c (t := t) (by omega), if_neg (by rcases hnd38 with z | z; (rw [z.2]; decide); exact absurd (by omega) z.1)]; rfl), rfl⟩ rfl dX5_targetsPointWell_46
  exact loop (M + 2) 0 ls _ hS (by omega) rfl hl

theorem kdC_lt {F : Nat → Nat} (hF : isF F) (p : Nat) : kdC (ocC F p) < 400 := by
  have a := hF p
  have b := hF (p + 1)
  unfold kdC ocC
  (repeat' split) <;> omega
theorem enC_lt {F : Nat → Nat} (hF : isF F) (p : Nat) : enC F p < 65536 := by
  have a := hF (p + 1)
  have b := U2_lt hF (p + 1)
  unfold enC
  (repeat' split) <;> omega
theorem loC_lt {F : Nat → Nat} (hF : isF F) (p : Nat) : loC F p < 65536 := by
  have a := hF p
  have b := hF (p + 1)
  have c := U2_lt hF (p + 2)
  unfold loC
  (repeat' split) <;> omega
theorem swI_of {F : Nat → Nat} {ca sz q M n : Nat} (h : swM F ca sz q (F (ca + q)) M) (hn : ca + sz ≤ n) : swIn F n ca q M ∧ swK F ca q (F (ca + q)) = M := by
  rcases h with ⟨a1, a2, a3, a4, a5⟩ | ⟨a1, a2, a3, a4⟩
  · refine ⟨Or.inl ⟨a1, a2, a4, by omega⟩, ?_⟩
    unfold swK
    rw [if_pos a1, a2]
    exact Int.toNat_natCast M
  · refine ⟨Or.inr ⟨a1, a2, a3, by omega⟩, ?_⟩
    unfold swK
    rw [if_neg (by omega), a2]
    exact Int.toNat_natCast M

set_option maxHeartbeats 4000000 in
set_option maxRecDepth 20000 in
theorem c_X5_pointsWell (l : Launch) (Z : zT) {H : Heap} {ad : Nat → Nat} {τ : mS} {X : List (Nat × va_E)} (hM : isC Z H ad τ X) {F : Nat → Nat} {n : Nat} (hB : cSrc τ F n) {ca sz ml ch cn f0 N bm : Nat} (hm : cMt τ F n ca sz ml ch cn f0 N bm) {tb mt : Nat → Nat} {cl nf nm : Nat} (hP : cPl τ F tb (U2 F 8)) (hmb : ∀ k, 1 ≤ k → k < U2 F 8 → τ.2.1 10 k = zI (mbC F tb mt cl nf nm k)) (hnfm : nf + nm ≤ 48) {q : Nat} (hq : q < sz) (hsp : 0 < spR F ca sz q) : zP l Z yX5_pointsWell cX5_pointsWell 6 (some .boolean) (rmk 5) [.ref (ad 0), .ref (ad (16 + bm)), zN (ca + q)] H (zV (bI (insOk F tb mt cl nf nm ca sz ml (nbR F ca sz N) q (F (ca + q))))) := by
  have hn := hB.2.2.2
  obtain ⟨m1, m2, m3, m4, m5, m6, m7, m8, m9, m10, m11, m12, m13, m14⟩ := id hm
  obtain ⟨hv, hs2, hs3⟩ := sp_b hsp hq
  have hp1 := hP.2.1
  have hbb := hB.1 (ca + q)
  refine zM.introI (own := RX5) ⟨by decide, rfl⟩ (Nat.le_of_ble_eq_true rfl) ?_
  intro p e s m args below meth c Q ls hH C hl hret
  have hS : va_S (fun _ => False) s.heap H [] := by rw [hH]; exact va_S.rf
  have hl : lv_has ls 6 [(0, .ref (ad 0)), (1, .ref (ad (16 + bm))), (2, zN (ca + q))] := hl
  refine lv_aload_n C.1 C.2.1 dX5_pointsWell_0 rfl (lv_at hl 0 rfl) ?_
  refine z_get C (v := .ref (ad 1)) hM.img rfl bi_wsX20 0 (by decide) zw_20_18 rfl rfl dX5_pointsWell_1 ?_
  refine lv_iload_n C.1 C.2.1 dX5_pointsWell_4 rfl (lv_at hl 2 rfl) ?_
  refine z_readS C (As := [.ref (ad 1), zN (ca + q)]) (rest := []) (c_X3_kindAt l Z hM hB (k := ca + q) (by omega)) ⟨⟨zw_22_22, zw_20_22, zw_22_20⟩, zd_X3_kindAt⟩ zw_22_21 ⟨Nat.le_of_ble_eq_true rfl, Nat.le_of_ble_eq_true rfl⟩ ⟨rfl, rfl⟩ rfl hl.1 rfl (Nat.le_of_ble_eq_true rfl) dX5_pointsWell_5 ⟨Nat.zero_le _, Nat.zero_le _⟩ hS (fun locs hS => ?_)
  have hkl := kdC_lt hB.1 (ca + q)
  refine lv_istore_n (lv' := [(3, zN (kdC (ocC F (ca + q)))), (0, .ref (ad 0)), (1, .ref (ad (16 + bm))), (2, zN (ca + q))]) C.1 C.2.1 dX5_pointsWell_8 rfl hl (by decide) rfl (fun ls hl => ?_)
  refine lv_aload_n C.1 C.2.1 dX5_pointsWell_9 rfl (lv_at hl 1 rfl) ?_
  refine z_get C (v := .ref (ad 1)) hM.img rfl bi_wsX20 0 (by decide) zw_20_18 rfl rfl dX5_pointsWell_10 ?_
  refine lv_iload_n C.1 C.2.1 dX5_pointsWell_13 rfl (lv_at hl 3 rfl) ?_
  refine z_readS C (As := [.ref (ad 1), zN (ca + q)]) (rest := []) (c_X3_entryAt l Z hM hB (k := ca + q) (by omega) (fun z => by have h3 := hs3 (by omega) (by omega) (by omega); rw [spM_3 (by omega)] at h3; omega)) ⟨⟨zw_23_1, zw_20_22, zw_22_23⟩, zd_X3_entryAt⟩ zw_23_0 ⟨Nat.le_of_ble_eq_true rfl, Nat.le_of_ble_eq_true rfl⟩ ⟨rfl, rfl⟩ rfl hl.1 rfl (Nat.le_of_ble_eq_true rfl) dX5_pointsWell_14 ⟨Nat.zero_le _, Nat.zero_le _⟩ hS (fun locs hS => ?_)
  have henl := enC_lt hB.1 (ca + q)
  refine lv_istore (lv' := [(4, zN (enC F (ca + q))), (3, zN (kdC (ocC F (ca + q)))), (0, .ref (ad 0)), (1, .ref (ad (16 + bm))), (2, zN (ca + q))]) C.1 C.2.1 dX5_pointsWell_17 hl (by decide) rfl (fun ls hl => ?_)
  refine lv_iload_n C.1 C.2.1 dX5_pointsWell_19 rfl (lv_at hl 1 rfl) ?_
  refine z_readS C (As := [zN (kdC (ocC F (ca + q)))]) (rest := []) (c_X3_isLocal l Z (kdC (ocC F (ca + q))) (by omega)) ⟨⟨zw_23_5, zw_20_22, zw_23_3⟩, zd_X3_isLocal⟩ zw_23_4 ⟨Nat.le_of_ble_eq_true rfl, Nat.le_of_ble_eq_true rfl⟩ ⟨rfl, rfl⟩ rfl hl.1 rfl (Nat.le_of_ble_eq_true rfl) dX5_pointsWell_20 ⟨Nat.zero_le _, Nat.zero_le _⟩ hS (fun locs hS => ?_)
  refine y_ifb_eq (tgt := 64) C dX5_pointsWell_23 (by decide) (fun h23 => ?_) (fun h23 => ?_)
  · have hnl := kd_nlo hv h23
    refine lv_iload_n C.1 C.2.1 dX5_pointsWell_64 rfl (lv_at hl 1 rfl) ?_
    refine z_readS C (As := [zN (kdC (ocC F (ca + q)))]) (rest := []) (c_X3_isJump l Z (kdC (ocC F (ca + q))) (by omega)) ⟨⟨zw_23_15, zw_20_22, zw_23_13⟩, zd_X3_isJump⟩ zw_23_14 ⟨Nat.le_of_ble_eq_true rfl, Nat.le_of_ble_eq_true rfl⟩ ⟨rfl, rfl⟩ rfl hl.1 rfl (Nat.le_of_ble_eq_true rfl) dX5_pointsWell_65 ⟨Nat.zero_le _, Nat.zero_le _⟩ hS (fun locs hS => ?_)
    refine y_ifb_eq (tgt := 94) C dX5_pointsWell_68 (by decide) (fun h68 => ?_) (fun h68 => ?_)
    · refine lv_iload_n C.1 C.2.1 dX5_pointsWell_94 rfl (lv_at hl 1 rfl) ?_
      refine z_readS C (As := [zN (kdC (ocC F (ca + q)))]) (rest := []) (c_X3_isSwitch l Z (kdC (ocC F (ca + q))) (by omega)) ⟨⟨zw_24_8, zw_20_22, zw_24_6⟩, zd_X3_isSwitch⟩ zw_24_7 ⟨Nat.le_of_ble_eq_true rfl, Nat.le_of_ble_eq_true rfl⟩ ⟨rfl, rfl⟩ rfl hl.1 rfl (Nat.le_of_ble_eq_true rfl) dX5_pointsWell_95 ⟨Nat.zero_le _, Nat.zero_le _⟩ hS (fun locs hS => ?_)
      refine y_ifb_eq (tgt := 108) C dX5_pointsWell_98 (by decide) (fun h98 => ?_) (fun h98 => ?_)
      · have hsb := of_decide_eq_false (kd_sw (b := F (ca + q)) ▸ (by rw [hnl.2] at h98; exact h98) : decide (F (ca + q) = 170 ∨ F (ca + q) = 171) = false)
        refine lv_iload_n C.1 C.2.1 dX5_pointsWell_108 rfl (lv_at hl 1 rfl) ?_
        refine z_readS C (As := [zN (kdC (ocC F (ca + q)))]) (rest := []) (c_X3_isField l Z (kdC (ocC F (ca + q))) (by omega)) ⟨⟨zw_24_20, zw_20_22, zw_24_18⟩, zd_X3_isField⟩ zw_24_19 ⟨Nat.le_of_ble_eq_true rfl, Nat.le_of_ble_eq_true rfl⟩ ⟨rfl, rfl⟩ rfl hl.1 rfl (Nat.le_of_ble_eq_true rfl) dX5_pointsWell_109 ⟨Nat.zero_le _, Nat.zero_le _⟩ hS (fun locs hS => ?_)
        refine y_ifb_eq (tgt := 151) C dX5_pointsWell_112 (by decide) (fun h112 => ?_) (fun h112 => ?_)
        · have hfb := of_decide_eq_false (kd_fd (b := F (ca + q)) ▸ (by rw [hnl.2] at h112; exact h112) : decide (F (ca + q) = 178 ∨ F (ca + q) = 179) = false)
          refine lv_aload_n C.1 C.2.1 dX5_pointsWell_151 rfl (lv_at hl 2 rfl) ?_
          refine z_get C (v := .ref (ad 1)) hM.img rfl bi_wsX20 0 (by decide) zw_20_18 rfl rfl dX5_pointsWell_152 ?_
          refine lv_iload_n C.1 C.2.1 dX5_pointsWell_155 rfl (lv_at hl 4 rfl) ?_
          refine z_readV C (As := [zN (ca + q)]) (rest := []) (c_u1 l Z hM hB (ca + q) rfl (by omega)) hM.byt rfl ⟨⟨zw_9_12, zw_2_15, zw_24_21⟩, zd_X1_u1⟩ zw_9_10 zw_9_11 ⟨Nat.le_of_ble_eq_true rfl, Nat.le_of_ble_eq_true rfl⟩ ⟨rfl, rfl⟩ rfl hl.1 rfl (Nat.le_of_ble_eq_true rfl) dX5_pointsWell_156 ⟨Nat.zero_le _, Nat.zero_le _⟩ hS (fun locs hS => ?_)
          have := hB.1 (ca + q)
          rcases (show ((F (ca + q) : Nat) : Int) = 18 ∨ ((F (ca + q) : Nat) : Int) = 19 ∨ ((F (ca + q) : Nat) : Int) = 20 ∨ ((F (ca + q) : Nat) : Int) = 184 ∨ (((F (ca + q) : Nat) : Int) ≠ 18 ∧ ((F (ca + q) : Nat) : Int) ≠ 19 ∧ ((F (ca + q) : Nat) : Int) ≠ 20 ∧ ((F (ca + q) : Nat) : Int) ≠ 184) by omega) with h159 | h159 | h159 | h159 | h159
          · refine y_lookIn C 18 h159 dX5_pointsWell_159 (by decide) (by decide) (off := 77) (by decide) (tgt := 236) (by decide) ?_
            have h1819 : F (ca + q) = 18 ∨ F (ca + q) = 19 := by omega
            refine lv_aload_n C.1 C.2.1 dX5_pointsWell_236 rfl (lv_at hl 2 rfl) ?_
            refine z_get C (v := .ref (ad 3)) hM.img rfl bi_wsX20 1 (by decide) zw_21_22 rfl rfl dX5_pointsWell_237 ?_
            refine lv_iconst (v := zI 3) C.1 C.2.1 dX5_pointsWell_240 (by decide) ?_
            refine lv_iload C.1 C.2.1 dX5_pointsWell_241 (lv_at hl 0 rfl) ?_
            refine z_readV C (As := [zN 3, zN (enC F (ca + q))]) (rest := []) (c_X7_is l Z hM hB hP 3 (by decide) (enC F (ca + q)) rfl (by omega)) hM.pol rfl ⟨⟨zw_11_11, zw_2_19, zw_22_6⟩, zd_X7_is⟩ zw_11_9 zw_11_10 ⟨Nat.le_of_ble_eq_true rfl, Nat.le_of_ble_eq_true rfl⟩ ⟨rfl, rfl⟩ rfl hl.1 rfl (Nat.le_of_ble_eq_true rfl) dX5_pointsWell_243 ⟨Nat.zero_le _, Nat.zero_le _⟩ hS (fun locs hS => ?_)
            exact hret _ _ _ _ (zI (bI (isE F tb (U2 F 8) (enC F (ca + q)) 3))) hS ⟨congrArg (fun x : Int => some (zV x)) (by rcases h1819 with z | z; (rw [ins_18 z, show enC F (ca + q) = F (ca + q + 1) from if_pos z]); (rw [ins_19 z, show enC F (ca + q) = U2 F (ca + q + 1) from (if_neg (by omega)).trans (if_pos (by omega))])), rfl⟩ (n_bool _) dX5_pointsWell_246
          · refine y_lookIn C 19 h159 dX5_pointsWell_159 (by decide) (by decide) (off := 77) (by decide) (tgt := 236) (by decide) ?_
            have h1819 : F (ca + q) = 18 ∨ F (ca + q) = 19 := by omega
            refine lv_aload_n C.1 C.2.1 dX5_pointsWell_236 rfl (lv_at hl 2 rfl) ?_
            refine z_get C (v := .ref (ad 3)) hM.img rfl bi_wsX20 1 (by decide) zw_21_22 rfl rfl dX5_pointsWell_237 ?_
            refine lv_iconst (v := zI 3) C.1 C.2.1 dX5_pointsWell_240 (by decide) ?_
            refine lv_iload C.1 C.2.1 dX5_pointsWell_241 (lv_at hl 0 rfl) ?_
            refine z_readV C (As := [zN 3, zN (enC F (ca + q))]) (rest := []) (c_X7_is l Z hM hB hP 3 (by decide) (enC F (ca + q)) rfl (by omega)) hM.pol rfl ⟨⟨zw_11_11, zw_2_19, zw_22_6⟩, zd_X7_is⟩ zw_11_9 zw_11_10 ⟨Nat.le_of_ble_eq_true rfl, Nat.le_of_ble_eq_true rfl⟩ ⟨rfl, rfl⟩ rfl hl.1 rfl (Nat.le_of_ble_eq_true rfl) dX5_pointsWell_243 ⟨Nat.zero_le _, Nat.zero_le _⟩ hS (fun locs hS => ?_)
            exact hret _ _ _ _ (zI (bI (isE F tb (U2 F 8) (enC F (ca + q)) 3))) hS ⟨congrArg (fun x : Int => some (zV x)) (by rcases h1819 with z | z; (rw [ins_18 z, show enC F (ca + q) = F (ca + q + 1) from if_pos z]); (rw [ins_19 z, show enC F (ca + q) = U2 F (ca + q + 1) from (if_neg (by omega)).trans (if_pos (by omega))])), rfl⟩ (n_bool _) dX5_pointsWell_246
          · refine y_lookIn C 20 h159 dX5_pointsWell_159 (by decide) (by decide) (off := 88) (by decide) (tgt := 247) (by decide) ?_
            have h20b : F (ca + q) = 20 := by omega
            refine lv_aload_n C.1 C.2.1 dX5_pointsWell_247 rfl (lv_at hl 2 rfl) ?_
            refine z_get C (v := .ref (ad 3)) hM.img rfl bi_wsX20 1 (by decide) zw_21_22 rfl rfl dX5_pointsWell_248 ?_
            refine lv_iconst (v := zI 5) C.1 C.2.1 dX5_pointsWell_251 (by decide) ?_
            refine lv_iload C.1 C.2.1 dX5_pointsWell_252 (lv_at hl 0 rfl) ?_
            refine z_readV C (As := [zN 5, zN (enC F (ca + q))]) (rest := []) (c_X7_is l Z hM hB hP 5 (by decide) (enC F (ca + q)) rfl (by omega)) hM.pol rfl ⟨⟨zw_11_11, zw_2_19, zw_22_6⟩, zd_X7_is⟩ zw_11_9 zw_11_10 ⟨Nat.le_of_ble_eq_true rfl, Nat.le_of_ble_eq_true rfl⟩ ⟨rfl, rfl⟩ rfl hl.1 rfl (Nat.le_of_ble_eq_true rfl) dX5_pointsWell_254 ⟨Nat.zero_le _, Nat.zero_le _⟩ hS (fun locs hS => ?_)
            exact hret _ _ _ _ (zI (bI (isE F tb (U2 F 8) (enC F (ca + q)) 5))) hS ⟨congrArg (fun x : Int => some (zV x)) (by rw [ins_20 h20b, show enC F (ca + q) = U2 F (ca + q + 1) from (if_neg (by omega)).trans (if_pos (by omega))]), rfl⟩ (n_bool _) dX5_pointsWell_257
          · refine y_lookIn C 184 h159 dX5_pointsWell_159 (by decide) (by decide) (off := 41) (by decide) (tgt := 200) (by decide) ?_
            have h184 : F (ca + q) = 184 := by omega
            have he184 : enC F (ca + q) = U2 F (ca + q + 1) := (if_neg (by omega)).trans (if_pos (by omega))
            refine lv_aload_n C.1 C.2.1 dX5_pointsWell_200 rfl (lv_at hl 2 rfl) ?_
            refine z_get C (v := .ref (ad 3)) hM.img rfl bi_wsX20 1 (by decide) zw_21_22 rfl rfl dX5_pointsWell_201 ?_
            refine lv_bipush (v := zI 10) C.1 C.2.1 dX5_pointsWell_204 (by decide) ?_
            refine lv_iload C.1 C.2.1 dX5_pointsWell_206 (lv_at hl 0 rfl) ?_
            refine z_readV C (As := [zN 10, zN (enC F (ca + q))]) (rest := []) (c_X7_is l Z hM hB hP 10 (by decide) (enC F (ca + q)) rfl (by omega)) hM.pol rfl ⟨⟨zw_11_11, zw_2_19, zw_22_6⟩, zd_X7_is⟩ zw_11_9 zw_11_10 ⟨Nat.le_of_ble_eq_true rfl, Nat.le_of_ble_eq_true rfl⟩ ⟨rfl, rfl⟩ rfl hl.1 rfl (Nat.le_of_ble_eq_true rfl) dX5_pointsWell_208 ⟨Nat.zero_le _, Nat.zero_le _⟩ hS (fun locs hS => ?_)
            refine y_ifb_eq (tgt := 234) C dX5_pointsWell_211 (by decide) (fun h211 => ?_) (fun h211 => ?_)
            · refine lv_iconst (v := zI 0) C.1 C.2.1 dX5_pointsWell_234 (by decide) ?_
              exact hret _ _ _ _ (zI 0) hS ⟨congrArg (fun x : Int => some (zV x)) (by rw [ins_184 h184, ← he184]; (first | (rw [mbR_no h211]; rfl) | (rw [← mbC_10' h211]; exact bI_0 (decide_eq_false (by omega))))), rfl⟩ rfl dX5_pointsWell_235
            · have hen211 := (isE_t h211).2.1
              refine lv_aload_n C.1 C.2.1 dX5_pointsWell_214 rfl (lv_at hl 2 rfl) ?_
              refine z_get C (v := .ref (ad 3)) hM.img rfl bi_wsX20 1 (by decide) zw_21_22 rfl rfl dX5_pointsWell_215 ?_
              refine z_get C (v := .ref (ad 10)) hM.pol rfl bi_wsX70 7 (by decide) zw_22_3 rfl rfl dX5_pointsWell_218 ?_
              refine lv_iload C.1 C.2.1 dX5_pointsWell_221 (lv_at hl 0 rfl) ?_
              refine z_readSN C (As := [.ref (ad 10), zN (enC F (ca + q))]) (rest := []) (c_at l Z (hM.row 10 (by decide)) (by decide) (enC F (ca + q)) rfl (by show _ < 500; omega)) ⟨⟨zw_11_13, zw_1_2⟩, zd_X11_at⟩ (by decide) zw_11_12 ⟨Nat.le_of_ble_eq_true rfl, Nat.le_of_ble_eq_true rfl⟩ ⟨rfl, rfl⟩ rfl hl.1 rfl (Nat.le_of_ble_eq_true rfl) dX5_pointsWell_223 ⟨Nat.zero_le _, Nat.zero_le _⟩ hS (fun locs hS => ?_)
              refine z_re (y := zI (mbC F tb mt cl nf nm (enC F (ca + q)))) (hmb _ (isE_t h211).1 (isE_t h211).2.1) ?_
              have hmr := mbR_rg F tb mt (U2 F 8) cl nf nm (enC F (ca + q)) 10
              rw [← mbC_10' h211] at hmr
              refine lv_iconst (v := zI (-1)) C.1 C.2.1 dX5_pointsWell_226 (by decide) ?_
              refine y_icmp_eq (tgt := 234) C (a := mbC F tb mt cl nf nm (enC F (ca + q))) (b := -1) dX5_pointsWell_227 (by decide) (by omega) (fun h227 => ?_) (fun h227 => ?_)
              · refine lv_iconst (v := zI 0) C.1 C.2.1 dX5_pointsWell_234 (by decide) ?_
                exact hret _ _ _ _ (zI 0) hS ⟨congrArg (fun x : Int => some (zV x)) (by rw [ins_184 h184, ← he184]; (first | (rw [mbR_no h211]; rfl) | (rw [← mbC_10' h211]; exact bI_0 (decide_eq_false (by omega))))), rfl⟩ rfl dX5_pointsWell_235
              · refine lv_iconst (v := zI 1) C.1 C.2.1 dX5_pointsWell_230 (by decide) ?_
                refine lv_goto (tgt := 235) C.1 C.2.1 dX5_pointsWell_231 (by decide) ?_
                exact hret _ _ _ _ (zI 1) hS ⟨congrArg (fun x : Int => some (zV x)) (by rw [ins_184 h184, ← he184]; (rw [← mbC_10' h211]; exact bI_1 (decide_eq_true (by omega)))), rfl⟩ rfl dX5_pointsWell_235
          · refine y_lookOut C (by omega) dX5_pointsWell_159 (by decide) (fun q hq => by simp at hq; rcases hq with rfl | rfl | rfl | rfl <;> (dsimp only; omega)) (tgt := 258) (by decide) ?_
            refine lv_iconst (v := zI 1) C.1 C.2.1 dX5_pointsWell_258 (by decide) ?_
            exact hret _ _ _ _ (zI 1) hS ⟨congrArg (fun x : Int => some (zV x)) (by rw [kd_else (by rw [hnl.2] at h23; exact h23) (by rw [hnl.2] at h68; exact h68) ⟨by omega, by omega, by omega, by omega, by omega, by omega, by omega, by omega, hnl.1⟩]; rfl), rfl⟩ rfl dX5_pointsWell_259
        · have hfb := of_decide_eq_true (kd_fd (b := F (ca + q)) ▸ (by rw [hnl.2] at h112; exact h112) : decide (F (ca + q) = 178 ∨ F (ca + q) = 179) = true)
          have he178 : enC F (ca + q) = U2 F (ca + q + 1) := (if_neg (by omega)).trans (if_pos (by omega))
          refine lv_aload_n C.1 C.2.1 dX5_pointsWell_115 rfl (lv_at hl 2 rfl) ?_
          refine z_get C (v := .ref (ad 3)) hM.img rfl bi_wsX20 1 (by decide) zw_21_22 rfl rfl dX5_pointsWell_116 ?_
          refine lv_bipush (v := zI 9) C.1 C.2.1 dX5_pointsWell_119 (by decide) ?_
          refine lv_iload C.1 C.2.1 dX5_pointsWell_121 (lv_at hl 0 rfl) ?_
          refine z_readV C (As := [zN 9, zN (enC F (ca + q))]) (rest := []) (c_X7_is l Z hM hB hP 9 (by decide) (enC F (ca + q)) rfl (by omega)) hM.pol rfl ⟨⟨zw_11_11, zw_2_19, zw_22_6⟩, zd_X7_is⟩ zw_11_9 zw_11_10 ⟨Nat.le_of_ble_eq_true rfl, Nat.le_of_ble_eq_true rfl⟩ ⟨rfl, rfl⟩ rfl hl.1 rfl (Nat.le_of_ble_eq_true rfl) dX5_pointsWell_123 ⟨Nat.zero_le _, Nat.zero_le _⟩ hS (fun locs hS => ?_)
          refine y_ifb_eq (tgt := 149) C dX5_pointsWell_126 (by decide) (fun h126 => ?_) (fun h126 => ?_)
          · refine lv_iconst (v := zI 0) C.1 C.2.1 dX5_pointsWell_149 (by decide) ?_
            exact hret _ _ _ _ (zI 0) hS ⟨congrArg (fun x : Int => some (zV x)) (by rw [ins_178 hfb, ← he178]; (first | (rw [mbR_no h126]; rfl) | (rw [← mbC_9' h126]; exact bI_0 (decide_eq_false (by omega))))), rfl⟩ rfl dX5_pointsWell_150
          · have hen126 := (isE_t h126).2.1
            refine lv_aload_n C.1 C.2.1 dX5_pointsWell_129 rfl (lv_at hl 2 rfl) ?_
            refine z_get C (v := .ref (ad 3)) hM.img rfl bi_wsX20 1 (by decide) zw_21_22 rfl rfl dX5_pointsWell_130 ?_
            refine z_get C (v := .ref (ad 10)) hM.pol rfl bi_wsX70 7 (by decide) zw_22_3 rfl rfl dX5_pointsWell_133 ?_
            refine lv_iload C.1 C.2.1 dX5_pointsWell_136 (lv_at hl 0 rfl) ?_
            refine z_readSN C (As := [.ref (ad 10), zN (enC F (ca + q))]) (rest := []) (c_at l Z (hM.row 10 (by decide)) (by decide) (enC F (ca + q)) rfl (by show _ < 500; omega)) ⟨⟨zw_11_13, zw_1_2⟩, zd_X11_at⟩ (by decide) zw_11_12 ⟨Nat.le_of_ble_eq_true rfl, Nat.le_of_ble_eq_true rfl⟩ ⟨rfl, rfl⟩ rfl hl.1 rfl (Nat.le_of_ble_eq_true rfl) dX5_pointsWell_138 ⟨Nat.zero_le _, Nat.zero_le _⟩ hS (fun locs hS => ?_)
            refine z_re (y := zI (mbC F tb mt cl nf nm (enC F (ca + q)))) (hmb _ (isE_t h126).1 (isE_t h126).2.1) ?_
            have hmr := mbR_rg F tb mt (U2 F 8) cl nf nm (enC F (ca + q)) 9
            rw [← mbC_9' h126] at hmr
            refine lv_iconst (v := zI (-1)) C.1 C.2.1 dX5_pointsWell_141 (by decide) ?_
            refine y_icmp_eq (tgt := 149) C (a := mbC F tb mt cl nf nm (enC F (ca + q))) (b := -1) dX5_pointsWell_142 (by decide) (by omega) (fun h142 => ?_) (fun h142 => ?_)
            · refine lv_iconst (v := zI 0) C.1 C.2.1 dX5_pointsWell_149 (by decide) ?_
              exact hret _ _ _ _ (zI 0) hS ⟨congrArg (fun x : Int => some (zV x)) (by rw [ins_178 hfb, ← he178]; (first | (rw [mbR_no h126]; rfl) | (rw [← mbC_9' h126]; exact bI_0 (decide_eq_false (by omega))))), rfl⟩ rfl dX5_pointsWell_150
            · refine lv_iconst (v := zI 1) C.1 C.2.1 dX5_pointsWell_145 (by decide) ?_
              refine lv_goto (tgt := 150) C.1 C.2.1 dX5_pointsWell_146 (by decide) ?_
              exact hret _ _ _ _ (zI 1) hS ⟨congrArg (fun x : Int => some (zV x)) (by rw [ins_178 hfb, ← he178]; (rw [← mbC_9' h126]; exact bI_1 (decide_eq_true (by omega)))), rfl⟩ rfl dX5_pointsWell_150
      · have hsb := of_decide_eq_true (kd_sw (b := F (ca + q)) ▸ (by rw [hnl.2] at h98; exact h98) : decide (F (ca + q) = 170 ∨ F (ca + q) = 171) = true)
        obtain ⟨Msw, hsw, -⟩ := swM_of rfl hsb hsp
        obtain ⟨hsI, hsk⟩ := swI_of hsw (n := n) (by omega)
        refine lv_aload_n C.1 C.2.1 dX5_pointsWell_101 rfl (lv_at hl 2 rfl) ?_
        refine lv_aload_n C.1 C.2.1 dX5_pointsWell_102 rfl (lv_at hl 3 rfl) ?_
        refine lv_iload_n C.1 C.2.1 dX5_pointsWell_103 rfl (lv_at hl 4 rfl) ?_
        refine z_readS C (As := [.ref (ad 0), .ref (ad (16 + bm)), zN (ca + q)]) (rest := []) (c_X5_targetsPointWell l Z hM hB hm (q := q) (M := Msw) (by omega) hsI) ⟨⟨zw_24_11, zw_20_6, zw_24_9⟩, zd_X5_targetsPointWell⟩ zw_24_10 ⟨Nat.le_of_ble_eq_true rfl, Nat.le_of_ble_eq_true rfl⟩ ⟨rfl, rfl⟩ rfl hl.1 rfl (Nat.le_of_ble_eq_true rfl) dX5_pointsWell_104 ⟨Nat.zero_le _, Nat.zero_le _⟩ hS (fun locs hS => ?_)
        exact hret _ _ _ _ (zI (bI (swG F ca sz (nbR F ca sz N) q (F (ca + q)) Msw))) hS ⟨congrArg (fun x : Int => some (zV x)) (by rw [ins_sw hsb, hsk]), rfl⟩ (n_bool _) dX5_pointsWell_107
    · have hjb := kd_jp (by rw [hnl.2] at h68; exact h68)
      have hjb4 : F (ca + q) = 200 ∨ F (ca + q) ≠ 200 := Classical.em _
      refine lv_aload_n C.1 C.2.1 dX5_pointsWell_71 rfl (lv_at hl 2 rfl) ?_
      refine lv_aload_n C.1 C.2.1 dX5_pointsWell_72 rfl (lv_at hl 3 rfl) ?_
      refine lv_aload_n C.1 C.2.1 dX5_pointsWell_73 rfl (lv_at hl 2 rfl) ?_
      refine z_get C (v := .ref (ad 1)) hM.img rfl bi_wsX20 0 (by decide) zw_20_18 rfl rfl dX5_pointsWell_74 ?_
      refine lv_iload_n C.1 C.2.1 dX5_pointsWell_77 rfl (lv_at hl 4 rfl) ?_
      refine z_readS C (As := [.ref (ad 1), zN (ca + q)]) (rest := [.ref (ad (16 + bm)), .ref (ad 0)]) (c_X3_jumpPlace l Z hM hB (k := ca + q) (by rcases hjb4 with z | z; (have h5 := hs3 (by omega) (by omega) (by omega); rw [z, show spM 200 = 5 from by decide] at h5; omega); (have h3 := hs3 (by omega) (by omega) (by omega); rw [spM_3 (by omega)] at h3; omega)) (fun z => by have h5 := hs3 (by omega) (by omega) (by omega); rw [z, show spM 200 = 5 from by decide] at h5; omega)) ⟨⟨zw_23_18, zw_20_22, zw_23_16⟩, zd_X3_jumpPlace⟩ zw_23_17 ⟨Nat.le_of_ble_eq_true rfl, Nat.le_of_ble_eq_true rfl⟩ ⟨rfl, rfl⟩ rfl hl.1 rfl (Nat.le_of_ble_eq_true rfl) dX5_pointsWell_78 ⟨Nat.zero_le _, Nat.zero_le _⟩ hS (fun locs hS => ?_)
      have hjr := jpO_rg hB.1 (ca + q)
      refine z_readV C (As := [.ref (ad (16 + bm)), zV (((ca + q : Nat) : Int) + jpO F (ca + q))]) (rest := []) (c_num l Z hM hm hn (T := ((ca + q : Nat) : Int) + jpO F (ca + q)) (t := (q : Int) + jpO F (ca + q)) (by omega) (by omega)) hM.img rfl ⟨⟨zw_24_3, zw_1_18, zw_24_0⟩, zd_X2_numberAt⟩ zw_24_1 zw_24_2 ⟨Nat.le_of_ble_eq_true rfl, Nat.le_of_ble_eq_true rfl⟩ ⟨rfl, rfl⟩ rfl hl.1 rfl (Nat.le_of_ble_eq_true rfl) dX5_pointsWell_81 ⟨Nat.zero_le _, Nat.zero_le _⟩ hS (fun locs hS => ?_)
      have hnc81 := numC_rg F ca sz N ((q : Int) + jpO F (ca + q))
      have hnd81 := numC_c F ca sz N ((q : Int) + jpO F (ca + q))
      refine lv_iconst (v := zI (-1)) C.1 C.2.1 dX5_pointsWell_84 (by decide) ?_
      refine y_icmp_eq (tgt := 92) C (a := numC F ca sz N ((q : Int) + jpO F (ca + q))) (b := -1) dX5_pointsWell_85 (by decide) (by omega) (fun h85 => ?_) (fun h85 => ?_)
      · refine lv_iconst (v := zI 0) C.1 C.2.1 dX5_pointsWell_92 (by decide) ?_
        exact hret _ _ _ _ (zI 0) hS ⟨congrArg (fun x : Int => some (zV x)) (by rw [ins_jp hjb]; rcases hnd81 with z | z; (rw [z.2]; rfl); (exact absurd (by omega) z.1)), rfl⟩ rfl dX5_pointsWell_93
      · refine lv_iconst (v := zI 1) C.1 C.2.1 dX5_pointsWell_88 (by decide) ?_
        refine lv_goto (tgt := 93) C.1 C.2.1 dX5_pointsWell_89 (by decide) ?_
        exact hret _ _ _ _ (zI 1) hS ⟨congrArg (fun x : Int => some (zV x)) (by rw [ins_jp hjb]; rcases hnd81 with z | z; (exact absurd z.1 (by omega)); (rw [z.2]; rfl)), rfl⟩ rfl dX5_pointsWell_93
  · refine lv_aload_n C.1 C.2.1 dX5_pointsWell_26 rfl (lv_at hl 2 rfl) ?_
    refine z_get C (v := .ref (ad 1)) hM.img rfl bi_wsX20 0 (by decide) zw_20_18 rfl rfl dX5_pointsWell_27 ?_
    refine lv_iload_n C.1 C.2.1 dX5_pointsWell_30 rfl (lv_at hl 4 rfl) ?_
    refine z_readS C (As := [.ref (ad 1), zN (ca + q)]) (rest := []) (c_X3_localAt l Z hM hB (k := ca + q) (by omega) (fun z => by have := hs2 z; omega)) ⟨⟨zw_23_11, zw_20_22, zw_23_9⟩, zd_X3_localAt⟩ zw_23_10 ⟨Nat.le_of_ble_eq_true rfl, Nat.le_of_ble_eq_true rfl⟩ ⟨rfl, rfl⟩ rfl hl.1 rfl (Nat.le_of_ble_eq_true rfl) dX5_pointsWell_31 ⟨Nat.zero_le _, Nat.zero_le _⟩ hS (fun locs hS => ?_)
    have hlol := loC_lt hB.1 (ca + q)
    refine lv_iload_n C.1 C.2.1 dX5_pointsWell_34 rfl (lv_at hl 1 rfl) ?_
    refine z_readS C (As := [zN (kdC (ocC F (ca + q)))]) (rest := [zN (loC F (ca + q))]) (c_X3_isLongLocal l Z (kdC (ocC F (ca + q))) (by omega)) ⟨⟨zw_23_8, zw_20_22, zw_23_12⟩, zd_X3_isLongLocal⟩ zw_23_7 ⟨Nat.le_of_ble_eq_true rfl, Nat.le_of_ble_eq_true rfl⟩ ⟨rfl, rfl⟩ rfl hl.1 rfl (Nat.le_of_ble_eq_true rfl) dX5_pointsWell_35 ⟨Nat.zero_le _, Nat.zero_le _⟩ hS (fun locs hS => ?_)
    refine y_ifb_eq (tgt := 45) C dX5_pointsWell_38 (by decide) (fun h38 => ?_) (fun h38 => ?_)
    · refine lv_iconst (v := zI 0) C.1 C.2.1 dX5_pointsWell_45 (by decide) ?_
      refine y_iaddN C (a := loC F (ca + q)) (b := 0) dX5_pointsWell_46 ?_
      refine lv_istore (lv' := [(5, zN ((loC F (ca + q)) + 0)), (4, zN (enC F (ca + q))), (3, zN (kdC (ocC F (ca + q)))), (0, .ref (ad 0)), (1, .ref (ad (16 + bm))), (2, zN (ca + q))]) C.1 C.2.1 dX5_pointsWell_47 hl (by decide) rfl (fun ls hl => ?_)
      refine lv_iload C.1 C.2.1 dX5_pointsWell_49 (lv_at hl 0 rfl) ?_
      refine lv_aload_n C.1 C.2.1 dX5_pointsWell_51 rfl (lv_at hl 4 rfl) ?_
      refine z_get C (v := .int (τ.2.1 22 bm)) (hM.bod bm (by omega)) rfl bi_wsX00 2 (by decide) zw_22_19 rfl rfl dX5_pointsWell_52 ?_
      refine z_re (y := zI ((ml : Nat) : Int)) m7 ?_
      refine y_icmp_ge (tgt := 62) C (a := (((loC F (ca + q)) + 0 : Nat) : Int)) (b := ((ml : Nat) : Int)) dX5_pointsWell_55 (by decide) (by omega) (fun h55 => ?_) (fun h55 => ?_)
      · refine lv_iconst (v := zI 0) C.1 C.2.1 dX5_pointsWell_62 (by decide) ?_
        exact hret _ _ _ _ (zI 0) hS ⟨congrArg (fun x : Int => some (zV x)) (by rw [kd_lo hv h23, if_neg (by rw [h38]; decide)]; exact bI_0 (decide_eq_false (by omega))), rfl⟩ rfl dX5_pointsWell_63
      · refine lv_iconst (v := zI 1) C.1 C.2.1 dX5_pointsWell_58 (by decide) ?_
        refine lv_goto (tgt := 63) C.1 C.2.1 dX5_pointsWell_59 (by decide) ?_
        exact hret _ _ _ _ (zI 1) hS ⟨congrArg (fun x : Int => some (zV x)) (by rw [kd_lo hv h23, if_neg (by rw [h38]; decide)]; exact bI_1 (decide_eq_true (by omega))), rfl⟩ rfl dX5_pointsWell_63
    · refine lv_iconst (v := zI 1) C.1 C.2.1 dX5_pointsWell_41 (by decide) ?_
      refine lv_goto (tgt := 46) C.1 C.2.1 dX5_pointsWell_42 (by decide) ?_
      refine y_iaddN C (a := loC F (ca + q)) (b := 1) dX5_pointsWell_46 ?_
      refine lv_istore (lv' := [(5, zN ((loC F (ca + q)) + 1)), (4, zN (enC F (ca + q))), (3, zN (kdC (ocC F (ca + q)))), (0, .ref (ad 0)), (1, .ref (ad (16 + bm))), (2, zN (ca + q))]) C.1 C.2.1 dX5_pointsWell_47 hl (by decide) rfl (fun ls hl => ?_)
      refine lv_iload C.1 C.2.1 dX5_pointsWell_49 (lv_at hl 0 rfl) ?_
      refine lv_aload_n C.1 C.2.1 dX5_pointsWell_51 rfl (lv_at hl 4 rfl) ?_
      refine z_get C (v := .int (τ.2.1 22 bm)) (hM.bod bm (by omega)) rfl bi_wsX00 2 (by decide) zw_22_19 rfl rfl dX5_pointsWell_52 ?_
      refine z_re (y := zI ((ml : Nat) : Int)) m7 ?_
      refine y_icmp_ge (tgt := 62) C (a := (((loC F (ca + q)) + 1 : Nat) : Int)) (b := ((ml : Nat) : Int)) dX5_pointsWell_55 (by decide) (by omega) (fun h55 => ?_) (fun h55 => ?_)
      · refine lv_iconst (v := zI 0) C.1 C.2.1 dX5_pointsWell_62 (by decide) ?_
        exact hret _ _ _ _ (zI 0) hS ⟨congrArg (fun x : Int => some (zV x)) (by rw [kd_lo hv h23, if_pos h38]; exact bI_0 (decide_eq_false (by omega))), rfl⟩ rfl dX5_pointsWell_63
      · refine lv_iconst (v := zI 1) C.1 C.2.1 dX5_pointsWell_58 (by decide) ?_
        refine lv_goto (tgt := 63) C.1 C.2.1 dX5_pointsWell_59 (by decide) ?_
        exact hret _ _ _ _ (zI 1) hS ⟨congrArg (fun x : Int => some (zV x)) (by rw [kd_lo hv h23, if_pos h38]; exact bI_1 (decide_eq_true (by omega))), rfl⟩ rfl dX5_pointsWell_63
