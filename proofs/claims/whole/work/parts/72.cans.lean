/-! the component: its answers -/
theorem cAll_m {τ : mS} {F tb mt : Nat → Nat} {n cl nf nm fa last i : Nat} (hA : cAll τ F n tb cl nf nm mt fa last) (hp : pLay F n tb cl nf nm mt fa last) (hn : n ≤ 16000) (h12 : x12 F tb mt nf (nf + nm) = none) (hb : ∀ i, i < nm → bOk F (cP F tb mt nf i)) (h15 : fst1 (x15f F tb mt nf) nm 0 = none) (hi : i < nm) :
    cMt τ F n (cP F tb mt nf i + 14) (cS F (cP F tb mt nf i)) (U2 F (cP F tb mt nf i + 8)) (cH F (cP F tb mt nf i)) (cN F (cP F tb mt nf i)) (nB F tb mt nf i) (nWf F tb mt nf i) i := cMt_of hp hn h12 hb h15 (hA.2.1 i hi).1 (hA.2.1 i hi).2.2 hi
/-- a file that keeps all rules: what is asked of it below -/
def good (F : Nat → Nat) (n : Nat) (tb : Nat → Nat) (cl nf nm : Nat) (mt : Nat → Nat) (fa last : Nat) : Prop :=
  isF F ∧ n ≤ 16000 ∧ pLay F n tb cl nf nm mt fa last ∧ x6 F tb (U2 F 8) = none ∧ x9 F tb (U2 F 8) mt (nf + nm) fa = none ∧ x10 F tb (U2 F 8) mt nf (nf + nm) = none ∧ x12 F tb mt nf (nf + nm) = none ∧ (∀ i, i < nm → bOk F (cP F tb mt nf i)) ∧ fst1 (x15f F tb mt nf) nm 0 = none ∧ fst1 (x16f F tb mt cl nf nm) nm 0 = none
theorem good_of {F : Nat → Nat} {n : Nat} {tb : Nat → Nat} {cl nf nm : Nat} {mt : Nat → Nat} {fa last : Nat} (hF : isF F) (hn : n ≤ 16000) (eL : xLay F n = .ok (tb, cl, nf, nm, mt, fa, last)) (eF : xFile F n = none) : good F n tb cl nf nm mt fa last := by
  obtain ⟨a6, a7, a8, a9, a10, a11, a12, a17, a13, a15, a16⟩ := xRest_9 ((xFile_ok eL).symm.trans eF)
  exact ⟨hF, hn, (xLay_p eL).1, a6, a9, a10, a12, fun i hi => x13_b hF a13 a10 hi, a15, a16⟩
theorem good.ok {F : Nat → Nat} {n : Nat} {tb : Nat → Nat} {cl nf nm : Nat} {mt : Nat → Nat} {fa last i k : Nat} (g : good F n tb cl nf nm mt fa last) (hi : i < nm) (hk : k < nWf F tb mt nf i) : stF F (cP F tb mt nf i + 14) (cS F (cP F tb mt nf i)) k < cS F (cP F tb mt nf i) ∧ 0 < spR F (cP F tb mt nf i + 14) (cS F (cP F tb mt nf i)) (stF F (cP F tb mt nf i + 14) (cS F (cP F tb mt nf i)) k) ∧
    insOk F tb mt cl nf nm (cP F tb mt nf i + 14) (cS F (cP F tb mt nf i)) (U2 F (cP F tb mt nf i + 8)) (nbR F (cP F tb mt nf i + 14) (cS F (cP F tb mt nf i)) (nWf F tb mt nf i)) (stF F (cP F tb mt nf i + 14) (cS F (cP F tb mt nf i)) k) (F (cP F tb mt nf i + 14 + stF F (cP F tb mt nf i + 14) (cS F (cP F tb mt nf i)) k)) = true := by
  obtain ⟨g1, g2, g3, g4, g5, g6, g7, g8, g9, g10⟩ := g
  have w := isWh_of (fst1_none _ _ g9 i (Nat.zero_le _) (by omega))
  have e := fst1_none _ _ g10 i (Nat.zero_le _) (by omega)
  unfold x16f x16 at e
  have e2 := fst1_none _ _ (orN e).1 k (Nat.zero_le _) (by omega)
  refine ⟨(w.2 k hk).1, (w.2 k hk).2, ?_⟩
  unfold g16 at e2
  split at e2
  · assumption
  · cases e2

set_option maxHeartbeats 4000000 in
set_option maxRecDepth 20000 in
theorem c_X11_size (l : Launch) (Z : zT) {H : Heap} {ad : Nat → Nat} {τ : mS} {X : List (Nat × va_E)} (hM : isC Z H ad τ X) {o v0 a0 : Nat} {kn fd : Int} (hR : zAt Z H o (.inr (7, rF v0 a0 (ad 0) kn fd))) {th : Bool} (hkn : kn = bI th) {fl me po : Nat} (h2 : τ.1 2 = zI (fl : Int)) (h3 : τ.1 3 = zI (me : Int)) (hq1 : τ.1 1 = zI (po : Int)) (t : Int) (ht : -2147483648 ≤ t ∧ t ≤ 2147483647) : zP l Z yX11_size cX11_size 2 (some .int) (rmk 1) [.ref o, zV t] H (zV (szA th fl me po t)) := by
  refine zM.introI (own := RX11) ⟨by decide, rfl⟩ (Nat.le_of_ble_eq_true rfl) ?_
  intro p e s m args below meth c Q ls hH C hl hret
  have hS : va_S (fun _ => False) s.heap H [] := by rw [hH]; exact va_S.rf
  have hl : lv_has ls 2 [(0, .ref o), (1, zV t)] := hl
  refine lv_aload_n C.1 C.2.1 dX11_size_0 rfl (lv_at hl 0 rfl) ?_
  refine z_get C (v := zV kn) hR rfl bi_wsX110 3 (by decide) zw_1_21 rfl rfl dX11_size_1 ?_
  refine z_re (y := zI (bI th)) (zI_c hkn) ?_
  refine y_ifb_ne (tgt := 9) C dX11_size_4 (by decide) (fun h4 => ?_) (fun h4 => ?_)
  · refine lv_iload_n C.1 C.2.1 dX11_size_9 rfl (lv_at hl 1 rfl) ?_
    rcases (show t = 0 ∨ t = 1 ∨ t = 2 ∨ (t < 0 ∨ 2 < t) by omega) with h10 | h10 | h10 | h10
    · refine y_tabIn C 0 h10 dX11_size_10 (by decide) rfl (tgt := 36) (by decide) ?_
      refine lv_aload_n C.1 C.2.1 dX11_size_36 rfl (lv_at hl 0 rfl) ?_
      refine z_get C (v := .ref (ad 0)) hR rfl bi_wsX110 2 (by decide) zw_1_20 rfl rfl dX11_size_37 ?_
      refine z_get C (v := .int (τ.1 2)) hM.img rfl bi_wsX20 6 (by decide) zw_36_13 rfl rfl dX11_size_40 ?_
      refine z_re (y := zI ((fl : Nat) : Int)) h2 ?_
      exact hret _ _ _ _ (zI ((fl : Nat) : Int)) hS ⟨congrArg (fun x : Int => some (zV x)) (by unfold szA; rw [if_neg (by rw [h4]; decide), if_pos (by omega)]), rfl⟩ rfl dX11_size_43
    · refine y_tabIn C 1 h10 dX11_size_10 (by decide) rfl (tgt := 44) (by decide) ?_
      refine lv_aload_n C.1 C.2.1 dX11_size_44 rfl (lv_at hl 0 rfl) ?_
      refine z_get C (v := .ref (ad 0)) hR rfl bi_wsX110 2 (by decide) zw_1_20 rfl rfl dX11_size_45 ?_
      refine z_get C (v := .int (τ.1 3)) hM.img rfl bi_wsX20 7 (by decide) zw_36_14 rfl rfl dX11_size_48 ?_
      refine z_re (y := zI ((me : Nat) : Int)) h3 ?_
      exact hret _ _ _ _ (zI ((me : Nat) : Int)) hS ⟨congrArg (fun x : Int => some (zV x)) (by unfold szA; rw [if_neg (by rw [h4]; decide), if_neg (by omega), if_pos (by omega)]), rfl⟩ rfl dX11_size_51
    · refine y_tabIn C 2 h10 dX11_size_10 (by decide) rfl (tgt := 52) (by decide) ?_
      refine lv_aload_n C.1 C.2.1 dX11_size_52 rfl (lv_at hl 0 rfl) ?_
      refine z_get C (v := .ref (ad 0)) hR rfl bi_wsX110 2 (by decide) zw_1_20 rfl rfl dX11_size_53 ?_
      refine z_get C (v := .ref (ad 3)) hM.img rfl bi_wsX20 1 (by decide) zw_13_6 rfl rfl dX11_size_56 ?_
      refine z_get C (v := .int (τ.1 1)) hM.pol rfl bi_wsX70 8 (by decide) zw_36_15 rfl rfl dX11_size_59 ?_
      refine z_re (y := zI ((po : Nat) : Int)) hq1 ?_
      exact hret _ _ _ _ (zI ((po : Nat) : Int)) hS ⟨congrArg (fun x : Int => some (zV x)) (by unfold szA; rw [if_neg (by rw [h4]; decide), if_neg (by omega), if_neg (by omega), if_pos (by omega)]), rfl⟩ rfl dX11_size_62
    · refine y_tabOut C h10 (by omega) dX11_size_10 (tgt := 63) (by decide) ?_
      refine lv_iconst (v := zI (-1)) C.1 C.2.1 dX11_size_63 (by decide) ?_
      exact hret _ _ _ _ (zI (-1)) hS ⟨congrArg (fun x : Int => some (zV x)) (by unfold szA; rw [if_neg (by rw [h4]; decide), if_neg (by omega), if_neg (by omega), if_neg (by omega)]), rfl⟩ rfl dX11_size_64
  · refine lv_iconst (v := zI (-1)) C.1 C.2.1 dX11_size_7 (by decide) ?_
    exact hret _ _ _ _ (zI (-1)) hS ⟨congrArg (fun x : Int => some (zV x)) (by unfold szA; rw [if_pos h4]), rfl⟩ rfl dX11_size_8

theorem kd_A {F : Nat → Nat} {fp ln i : Nat} (h : kd F fp ln i ≠ 0) : (kd F fp ln i : Int) = kdA (nmC F fp ln i) := by
  unfold kdA
  unfold kd at h ⊢
  by_cases a : nmC F fp ln i = 73
  · rw [if_pos a, if_pos a]; rfl
  · rw [if_neg a] at h ⊢
    rw [if_neg a]
    by_cases b : nmC F fp ln i = 74
    · rw [if_pos b, if_pos b]; rfl
    · rw [if_neg b] at h ⊢
      rw [if_neg b]
      by_cases c : nmC F fp ln i = 91 ∧ nmC F fp ln (i + 1) = 73
      · rw [if_pos c, if_pos c.1]; rfl
      · rw [if_neg c] at h; exact absurd rfl h
theorem kdW_fy {F tb : Nat → Nat} {k : Nat} (h : tyN F tb k = true) : (kdW F (nP tb k) (nL F tb k) 0 : Int) = fyN F tb k := by
  have h0 := (kdW_ty F (nP tb k) (nL F tb k)).mpr h
  unfold fyN
  unfold kdW at h0 ⊢
  by_cases a : kd F (nP tb k) (nL F tb k) 0 ≠ 0 ∧ 0 + ltO (kd F (nP tb k) (nL F tb k) 0) = nL F tb k
  · rw [if_pos a]
    exact kd_A a.1
  · rw [if_neg a] at h0; exact absurd rfl h0
theorem rsV_rs {F tb : Nat → Nat} {k : Nat} (h : 0 ≤ ppN F tb k) : (rsV F (nP tb k) (nL F tb k) : Int) = rsN F tb k := by
  have h0 := (rsV_pp F (nP tb k) (nL F tb k)).1.mpr h
  unfold rsN
  unfold rsV at h0 ⊢
  by_cases a : nmC F (nP tb k) (nL F tb k) 0 = 40 ∧ nmC F (nP tb k) (nL F tb k) (ppI F (nP tb k) (nL F tb k)).1 = 41
  · rw [if_pos a] at h0 ⊢
    by_cases b : (ppI F (nP tb k) (nL F tb k)).1 + 2 = nL F tb k ∧ nmC F (nP tb k) (nL F tb k) ((ppI F (nP tb k) (nL F tb k)).1 + 1) = 86
    · rw [if_pos b]; unfold kdA; rw [if_neg (by omega), if_neg (by omega), if_neg (by omega)]; rfl
    · rw [if_neg b] at h0 ⊢
      unfold kdW at h0 ⊢
      by_cases c : kd F (nP tb k) (nL F tb k) ((ppI F (nP tb k) (nL F tb k)).1 + 1) ≠ 0 ∧ (ppI F (nP tb k) (nL F tb k)).1 + 1 + ltO (kd F (nP tb k) (nL F tb k) ((ppI F (nP tb k) (nL F tb k)).1 + 1)) = nL F tb k
      · rw [if_pos c]
        exact kd_A c.1
      · rw [if_neg c] at h0; exact absurd rfl h0
  · rw [if_neg a] at h0; exact absurd rfl h0
theorem x10_ty {F tb mt : Nat → Nat} {pc nf nm i : Nat} (h : x10 F tb pc mt nf (nf + nm) = none) (hi : i < nf) : tyN F tb (U2 F (mt i + 4)) = true := by
  unfold x10 at h
  have e := fst1_none _ _ (orN h).2 i (Nat.zero_le _) (by omega)
  unfold g10m at e
  rw [if_pos hi] at e
  split at e
  · assumption
  · cases e

set_option maxHeartbeats 4000000 in
set_option maxRecDepth 20000 in
theorem c_X11_field (l : Launch) (Z : zT) {H : Heap} {ad : Nat → Nat} {τ : mS} {X : List (Nat × va_E)} (hM : isC Z H ad τ X) {o v0 a0 : Nat} {kn fd : Int} (hR : zAt Z H o (.inr (7, rF v0 a0 (ad 0) kn fd))) {F : Nat → Nat} {n : Nat} {tb mt : Nat → Nat} {cl nf nm fa last : Nat} (hB0 : ∀ j, j < n → τ.2.1 2 j = zI (sb (F j))) (hn0 : τ.1 0 = zI (n : Int)) (hA : cAll τ F n tb cl nf nm mt fa last) (hg : good F n tb cl nf nm mt fa last) (t : Int) (ht : -2147483648 ≤ t ∧ t ≤ 2147483647) : zP l Z yX11_field cX11_field 2 (some .int) (rmk 3) [.ref o, zV t] H (zV (fdA true nf (fun k => fyN F tb (U2 F (mt k + 4))) t)) := by
  obtain ⟨g1, g2, g3, g4, g5, g6, g7, g8, g9, g10⟩ := id hg
  have hB : cSrc τ F n := ⟨g1, hB0, hn0, g2⟩
  have hn := g2
  have hL := hA.1
  have hP := hL.1
  have hp := g3
  obtain ⟨p1, p2, p3, p4, p5, p6, p7, p8, p9, p10, p11, p12⟩ := id hp
  obtain ⟨q1, q2, q3, q4, q5, q6, q7, q8, q9⟩ := id hL
  have hx3 := q4
  have hnm := p8
  refine zM.introI (own := RX11) ⟨by decide, rfl⟩ (Nat.le_of_ble_eq_true rfl) ?_
  intro p e s m args below meth c Q ls hH C hl hret
  have hS : va_S (fun _ => False) s.heap H [] := by rw [hH]; exact va_S.rf
  have hl : lv_has ls 2 [(0, .ref o), (1, zV t)] := hl
  refine lv_iload_n C.1 C.2.1 dX11_field_0 rfl (lv_at hl 1 rfl) ?_
  refine y_if_lt (tgt := 15) C (a := t) dX11_field_1 (by decide) (by omega) (fun h1 => ?_) (fun h1 => ?_)
  · refine lv_iconst (v := zI (-1)) C.1 C.2.1 dX11_field_15 (by decide) ?_
    exact hret _ _ _ _ (zI (-1)) hS ⟨congrArg (fun x : Int => some (zV x)) (by unfold fdA; rw [if_neg (by omega)]), rfl⟩ rfl dX11_field_16
  · refine lv_iload_n C.1 C.2.1 dX11_field_4 rfl (lv_at hl 1 rfl) ?_
    refine lv_aload_n C.1 C.2.1 dX11_field_5 rfl (lv_at hl 0 rfl) ?_
    refine z_get C (v := .ref (ad 0)) hR rfl bi_wsX110 2 (by decide) zw_1_20 rfl rfl dX11_field_6 ?_
    refine z_get C (v := .int (τ.1 2)) hM.img rfl bi_wsX20 6 (by decide) zw_36_13 rfl rfl dX11_field_9 ?_
    refine z_re (y := zI ((nf : Nat) : Int)) q3 ?_
    refine y_icmp_lt (tgt := 17) C (a := t) (b := ((nf : Nat) : Int)) dX11_field_12 (by decide) (by omega) (fun h12 => ?_) (fun h12 => ?_)
    · have hx := x9_nm g5 (j := t.toNat) (by omega)
      have hm1 := (hp.m1 (j := t.toNat) (by omega)).1
      have hz := x10_ty g6 (i := t.toNat) (by omega)
      obtain ⟨hx1, hx2, -⟩ := hx
      obtain ⟨hx4, hx5, hx6_⟩ := hx2
      refine lv_aload_n C.1 C.2.1 dX11_field_17 rfl (lv_at hl 0 rfl) ?_
      refine z_get C (v := .ref (ad 0)) hR rfl bi_wsX110 2 (by decide) zw_1_20 rfl rfl dX11_field_18 ?_
      refine z_get C (v := .ref (ad 3)) hM.img rfl bi_wsX20 1 (by decide) zw_13_6 rfl rfl dX11_field_21 ?_
      refine z_get C (v := .ref (ad 7)) hM.pol rfl bi_wsX70 4 (by decide) zw_37_0 rfl rfl dX11_field_24 ?_
      refine lv_aload_n C.1 C.2.1 dX11_field_27 rfl (lv_at hl 0 rfl) ?_
      refine z_get C (v := .ref (ad 0)) hR rfl bi_wsX110 2 (by decide) zw_1_20 rfl rfl dX11_field_28 ?_
      refine lv_aload_n C.1 C.2.1 dX11_field_31 rfl (lv_at hl 0 rfl) ?_
      refine z_get C (v := .ref (ad 0)) hR rfl bi_wsX110 2 (by decide) zw_1_20 rfl rfl dX11_field_32 ?_
      refine z_get C (v := .ref (ad 11)) hM.img rfl bi_wsX20 2 (by decide) zw_37_1 rfl rfl dX11_field_35 ?_
      refine lv_iload_n C.1 C.2.1 dX11_field_38 rfl (lv_at hl 1 rfl) ?_
      refine z_readS C (As := [.ref (ad 11), zV t]) (rest := [.ref (ad 0), .ref (ad 7)]) (c_at l Z (hM.row 11 (by decide)) (by decide) t.toNat (by omega) (by show _ < 24; omega)) ⟨⟨zw_11_13, zw_1_2, zw_37_2⟩, zd_X11_at⟩ zw_11_12 ⟨Nat.le_of_ble_eq_true rfl, Nat.le_of_ble_eq_true rfl⟩ ⟨rfl, rfl⟩ rfl hl.1 rfl (Nat.le_of_ble_eq_true rfl) dX11_field_39 ⟨Nat.zero_le _, Nat.zero_le _⟩ hS (fun locs hS => ?_)
      refine z_re (y := zI ((mt (t.toNat) : Nat) : Int)) (q8 _ (by omega)) ?_
      refine z_readV C (As := [zN (mt (t.toNat))]) (rest := [.ref (ad 7)]) (c_X2_typeOf l Z hM hB (mt (t.toNat)) rfl (by omega)) hM.img rfl ⟨⟨zw_15_12, zw_1_18, zw_37_3⟩, zd_X2_typeOf⟩ zw_15_10 zw_15_11 ⟨Nat.le_of_ble_eq_true rfl, Nat.le_of_ble_eq_true rfl⟩ ⟨rfl, rfl⟩ rfl hl.1 rfl (Nat.le_of_ble_eq_true rfl) dX11_field_42 ⟨Nat.zero_le _, Nat.zero_le _⟩ hS (fun locs hS => ?_)
      have hnt42 := U2_lt hB.1 ((mt (t.toNat)) + 4)
      refine z_readS C (As := [.ref (ad 7), zN (U2 F ((mt (t.toNat)) + 4))]) (rest := []) (c_at l Z (hM.row 7 (by decide)) (by decide) (U2 F ((mt (t.toNat)) + 4)) rfl (by show _ < 500; omega)) ⟨⟨zw_11_13, zw_1_2, zw_37_2⟩, zd_X11_at⟩ zw_11_12 ⟨Nat.le_of_ble_eq_true rfl, Nat.le_of_ble_eq_true rfl⟩ ⟨rfl, rfl⟩ rfl hl.1 rfl (Nat.le_of_ble_eq_true rfl) dX11_field_45 ⟨Nat.zero_le _, Nat.zero_le _⟩ hS (fun locs hS => ?_)
      refine z_re (y := zI ((kdW F (nP tb (U2 F ((mt (t.toNat)) + 4))) (nL F tb (U2 F ((mt (t.toNat)) + 4))) 0 : Nat) : Int)) ((q2 _ (by omega) (by omega) (by omega)).1) ?_
      exact hret _ _ _ _ (zI ((kdW F (nP tb (U2 F ((mt (t.toNat)) + 4))) (nL F tb (U2 F ((mt (t.toNat)) + 4))) 0 : Nat) : Int)) hS ⟨congrArg (fun x : Int => some (zV x)) (by unfold fdA; rw [if_pos ⟨rfl, by omega, by omega⟩]; exact kdW_fy hz), rfl⟩ rfl dX11_field_48
    · refine lv_iconst (v := zI (-1)) C.1 C.2.1 dX11_field_15 (by decide) ?_
      exact hret _ _ _ _ (zI (-1)) hS ⟨congrArg (fun x : Int => some (zV x)) (by unfold fdA; rw [if_neg (by omega)]), rfl⟩ rfl dX11_field_16

def hvM (F tb mt : Nat → Nat) (nf : Nat) : Nat → Nat → Int := (fun i w => if w = 0 then (nWf F tb mt nf i : Int) else if w = 1 then (U2 F (cP F tb mt nf i + 6) : Int) else if w = 2 then (U2 F (cP F tb mt nf i + 8) : Int) else if w = 3 then ppN F tb (U2 F (mt (nf + i) + 4)) else if w = 4 then (cN F (cP F tb mt nf i) : Int) else rsN F tb (U2 F (mt (nf + i) + 4)))

set_option maxHeartbeats 4000000 in
set_option maxRecDepth 20000 in
theorem c_met1 (l : Launch) (Z : zT) {H : Heap} {ad : Nat → Nat} {τ : mS} {X : List (Nat × va_E)} (hM : isC Z H ad τ X) {o v0 a0 : Nat} {kn fd : Int} (hR : zAt Z H o (.inr (7, rF v0 a0 (ad 0) kn fd))) {F : Nat → Nat} {n : Nat} {tb mt : Nat → Nat} {cl nf nm fa last : Nat} (hB0 : ∀ j, j < n → τ.2.1 2 j = zI (sb (F j))) (hn0 : τ.1 0 = zI (n : Int)) (hA : cAll τ F n tb cl nf nm mt fa last) (hg : good F n tb cl nf nm mt fa last) (k : Nat) (hk : k < nm) (u : Int) (hu : -2147483648 ≤ u ∧ u ≤ 2147483647) : zP l Z yX11_method cX11_method 4 (some .int) (rmk 3) [.ref o, zN k, zV u] H (zV (mtA true nm (hvM F tb mt nf) (k : Int) u)) := by
  obtain ⟨g1, g2, g3, g4, g5, g6, g7, g8, g9, g10⟩ := id hg
  have hB : cSrc τ F n := ⟨g1, hB0, hn0, g2⟩
  have hn := g2
  have hL := hA.1
  have hP := hL.1
  have hp := g3
  obtain ⟨p1, p2, p3, p4, p5, p6, p7, p8, p9, p10, p11, p12⟩ := id hp
  obtain ⟨q1, q2, q3, q4, q5, q6, q7, q8, q9⟩ := id hL
  have hx3 := q4
  have hnm := p8
  have hbv := (hA.2.1 k hk).1
  have hpa := (hA.2.1 k hk).2.1
  have hcr := (hA.2.1 k hk).2.2
  have hpp0 := x10_pp g6 (i := k) hk
  have hpn := paN_pp hpp0.1
  have hrs := rsV_rs hpp0.1
  have hx := x9_nm g5 (j := nf + k) (by omega)
  have hm1 := (hp.m2 (j := k) hk).1
  obtain ⟨hxa, ⟨hxb, hxc, hxd⟩, -⟩ := hx
  refine zM.introI (own := RX11) ⟨by decide, rfl⟩ (Nat.le_of_ble_eq_true rfl) ?_
  intro p e s m args below meth c Q ls hH C hl hret
  have hS : va_S (fun _ => False) s.heap H [] := by rw [hH]; exact va_S.rf
  have hl : lv_has ls 4 [(0, .ref o), (1, zN k), (2, zV u)] := hl
  refine lv_aload_n C.1 C.2.1 dX11_method_0 rfl (lv_at hl 0 rfl) ?_
  refine z_get C (v := .ref (ad 0)) hR rfl bi_wsX110 2 (by decide) zw_1_20 rfl rfl dX11_method_1 ?_
  refine lv_iload_n C.1 C.2.1 dX11_method_4 rfl (lv_at hl 1 rfl) ?_
  refine z_readV C (As := [zN k]) (rest := []) (c_bodyOf l Z hM hx3 hnm k rfl (by omega)) hM.img rfl ⟨⟨zw_16_18, zw_1_18, zw_37_19⟩, zd_X2_bodyOf⟩ zw_16_16 zw_16_17 ⟨Nat.le_of_ble_eq_true rfl, Nat.le_of_ble_eq_true rfl⟩ ⟨rfl, rfl⟩ rfl hl.1 rfl (Nat.le_of_ble_eq_true rfl) dX11_method_5 ⟨Nat.zero_le _, Nat.zero_le _⟩ hS (fun locs hS => ?_)
  refine lv_astore_n (lv' := [(3, .ref (ad (16 + k))), (0, .ref o), (1, zN k), (2, zV u)]) C.1 C.2.1 dX11_method_8 rfl hl (by decide) rfl (fun ls hl => ?_)
  refine lv_aload_n C.1 C.2.1 dX11_method_9 rfl (lv_at hl 0 rfl) ?_
  refine lv_ifnonnull (tgt := 15) C.1 C.2.1 dX11_method_10 (by decide) ?_
  refine lv_iload_n C.1 C.2.1 dX11_method_15 rfl (lv_at hl 3 rfl) ?_
  rcases (show u = 0 ∨ u = 1 ∨ u = 2 ∨ u = 3 ∨ u = 4 ∨ u = 5 ∨ (u < 0 ∨ 5 < u) by omega) with h16 | h16 | h16 | h16 | h16 | h16 | h16
  · refine y_tabIn C 0 h16 dX11_method_16 (by decide) rfl (tgt := 56) (by decide) ?_
    refine lv_aload_n C.1 C.2.1 dX11_method_56 rfl (lv_at hl 0 rfl) ?_
    refine z_get C (v := .int (τ.2.1 29 k)) (hM.bod k (by omega)) rfl bi_wsX00 9 (by decide) zw_37_12 rfl rfl dX11_method_57 ?_
    refine z_re (y := zI ((nWf F tb mt nf (k) : Nat) : Int)) hcr.2.1 ?_
    exact hret _ _ _ _ (zI ((nWf F tb mt nf (k) : Nat) : Int)) hS ⟨congrArg (fun x : Int => some (zV x)) (by unfold mtA; rw [if_pos ⟨decide_eq_true ⟨rfl, by omega, by omega⟩, by omega, by omega⟩, Int.toNat_natCast, show u.toNat = 0 by omega]; show _ = hvM F tb mt nf k 0; unfold hvM; rfl), rfl⟩ rfl dX11_method_60
  · refine y_tabIn C 1 h16 dX11_method_16 (by decide) rfl (tgt := 61) (by decide) ?_
    refine lv_aload_n C.1 C.2.1 dX11_method_61 rfl (lv_at hl 0 rfl) ?_
    refine z_get C (v := .int (τ.2.1 21 k)) (hM.bod k (by omega)) rfl bi_wsX00 1 (by decide) zw_37_13 rfl rfl dX11_method_62 ?_
    refine z_re (y := zI ((U2 F (cP F tb mt nf (k) + 6) : Nat) : Int)) hbv.1 ?_
    exact hret _ _ _ _ (zI ((U2 F (cP F tb mt nf (k) + 6) : Nat) : Int)) hS ⟨congrArg (fun x : Int => some (zV x)) (by unfold mtA; rw [if_pos ⟨decide_eq_true ⟨rfl, by omega, by omega⟩, by omega, by omega⟩, Int.toNat_natCast, show u.toNat = 1 by omega]; show _ = hvM F tb mt nf k 1; unfold hvM; rfl), rfl⟩ rfl dX11_method_65
  · refine y_tabIn C 2 h16 dX11_method_16 (by decide) rfl (tgt := 66) (by decide) ?_
    refine lv_aload_n C.1 C.2.1 dX11_method_66 rfl (lv_at hl 0 rfl) ?_
    refine z_get C (v := .int (τ.2.1 22 k)) (hM.bod k (by omega)) rfl bi_wsX00 2 (by decide) zw_37_14 rfl rfl dX11_method_67 ?_
    refine z_re (y := zI ((U2 F (cP F tb mt nf (k) + 8) : Nat) : Int)) hbv.2.1 ?_
    exact hret _ _ _ _ (zI ((U2 F (cP F tb mt nf (k) + 8) : Nat) : Int)) hS ⟨congrArg (fun x : Int => some (zV x)) (by unfold mtA; rw [if_pos ⟨decide_eq_true ⟨rfl, by omega, by omega⟩, by omega, by omega⟩, Int.toNat_natCast, show u.toNat = 2 by omega]; show _ = hvM F tb mt nf k 2; unfold hvM; rfl), rfl⟩ rfl dX11_method_70
  · refine y_tabIn C 3 h16 dX11_method_16 (by decide) rfl (tgt := 71) (by decide) ?_
    refine lv_aload_n C.1 C.2.1 dX11_method_71 rfl (lv_at hl 0 rfl) ?_
    refine z_get C (v := .int (τ.2.1 23 k)) (hM.bod k (by omega)) rfl bi_wsX00 3 (by decide) zw_37_15 rfl rfl dX11_method_72 ?_
    refine z_re (y := zI ((paN F tb (U2 F (mt (nf + k) + 4)) : Nat) : Int)) hpa ?_
    exact hret _ _ _ _ (zI ((paN F tb (U2 F (mt (nf + k) + 4)) : Nat) : Int)) hS ⟨congrArg (fun x : Int => some (zV x)) (by unfold mtA; rw [if_pos ⟨decide_eq_true ⟨rfl, by omega, by omega⟩, by omega, by omega⟩, Int.toNat_natCast, show u.toNat = 3 by omega]; show _ = hvM F tb mt nf k 3; unfold hvM; exact hpn.symm), rfl⟩ rfl dX11_method_75
  · refine y_tabIn C 4 h16 dX11_method_16 (by decide) rfl (tgt := 76) (by decide) ?_
    refine lv_aload_n C.1 C.2.1 dX11_method_76 rfl (lv_at hl 0 rfl) ?_
    refine z_get C (v := .int (τ.2.1 27 k)) (hM.bod k (by omega)) rfl bi_wsX00 7 (by decide) zw_37_16 rfl rfl dX11_method_77 ?_
    refine z_re (y := zI ((cN F (cP F tb mt nf (k)) : Nat) : Int)) hbv.2.2.2.2.2 ?_
    exact hret _ _ _ _ (zI ((cN F (cP F tb mt nf (k)) : Nat) : Int)) hS ⟨congrArg (fun x : Int => some (zV x)) (by unfold mtA; rw [if_pos ⟨decide_eq_true ⟨rfl, by omega, by omega⟩, by omega, by omega⟩, Int.toNat_natCast, show u.toNat = 4 by omega]; show _ = hvM F tb mt nf k 4; unfold hvM; rfl), rfl⟩ rfl dX11_method_80
  · refine y_tabIn C 5 h16 dX11_method_16 (by decide) rfl (tgt := 81) (by decide) ?_
    refine lv_aload_n C.1 C.2.1 dX11_method_81 rfl (lv_at hl 1 rfl) ?_
    refine z_get C (v := .ref (ad 0)) hR rfl bi_wsX110 2 (by decide) zw_1_20 rfl rfl dX11_method_82 ?_
    refine z_get C (v := .ref (ad 3)) hM.img rfl bi_wsX20 1 (by decide) zw_13_6 rfl rfl dX11_method_85 ?_
    refine z_get C (v := .ref (ad 8)) hM.pol rfl bi_wsX70 5 (by decide) zw_37_17 rfl rfl dX11_method_88 ?_
    refine lv_aload_n C.1 C.2.1 dX11_method_91 rfl (lv_at hl 1 rfl) ?_
    refine z_get C (v := .ref (ad 0)) hR rfl bi_wsX110 2 (by decide) zw_1_20 rfl rfl dX11_method_92 ?_
    refine lv_aload_n C.1 C.2.1 dX11_method_95 rfl (lv_at hl 1 rfl) ?_
    refine z_get C (v := .ref (ad 0)) hR rfl bi_wsX110 2 (by decide) zw_1_20 rfl rfl dX11_method_96 ?_
    refine z_get C (v := .ref (ad 12)) hM.img rfl bi_wsX20 3 (by decide) zw_37_18 rfl rfl dX11_method_99 ?_
    refine lv_iload_n C.1 C.2.1 dX11_method_102 rfl (lv_at hl 2 rfl) ?_
    refine z_readS C (As := [.ref (ad 12), zN k]) (rest := [.ref (ad 0), .ref (ad 8)]) (c_at l Z (hM.row 12 (by decide)) (by decide) k rfl (by show _ < 24; omega)) ⟨⟨zw_11_13, zw_1_2, zw_37_2⟩, zd_X11_at⟩ zw_11_12 ⟨Nat.le_of_ble_eq_true rfl, Nat.le_of_ble_eq_true rfl⟩ ⟨rfl, rfl⟩ rfl hl.1 rfl (Nat.le_of_ble_eq_true rfl) dX11_method_103 ⟨Nat.zero_le _, Nat.zero_le _⟩ hS (fun locs hS => ?_)
    refine z_re (y := zI ((mt (nf + k) : Nat) : Int)) (q9 _ (by omega)) ?_
    refine z_readV C (As := [zN (mt (nf + k))]) (rest := [.ref (ad 8)]) (c_X2_typeOf l Z hM hB (mt (nf + k)) rfl (by omega)) hM.img rfl ⟨⟨zw_15_12, zw_1_18, zw_37_3⟩, zd_X2_typeOf⟩ zw_15_10 zw_15_11 ⟨Nat.le_of_ble_eq_true rfl, Nat.le_of_ble_eq_true rfl⟩ ⟨rfl, rfl⟩ rfl hl.1 rfl (Nat.le_of_ble_eq_true rfl) dX11_method_106 ⟨Nat.zero_le _, Nat.zero_le _⟩ hS (fun locs hS => ?_)
    have hnt106 := U2_lt hB.1 ((mt (nf + k)) + 4)
    refine z_readS C (As := [.ref (ad 8), zN (U2 F ((mt (nf + k)) + 4))]) (rest := []) (c_at l Z (hM.row 8 (by decide)) (by decide) (U2 F ((mt (nf + k)) + 4)) rfl (by show _ < 500; omega)) ⟨⟨zw_11_13, zw_1_2, zw_37_2⟩, zd_X11_at⟩ zw_11_12 ⟨Nat.le_of_ble_eq_true rfl, Nat.le_of_ble_eq_true rfl⟩ ⟨rfl, rfl⟩ rfl hl.1 rfl (Nat.le_of_ble_eq_true rfl) dX11_method_109 ⟨Nat.zero_le _, Nat.zero_le _⟩ hS (fun locs hS => ?_)
    refine z_re (y := zI ((rsV F (nP tb (U2 F ((mt (nf + k)) + 4))) (nL F tb (U2 F ((mt (nf + k)) + 4))) : Nat) : Int)) ((q2 _ (by omega) (by omega) (by omega)).2.1) ?_
    exact hret _ _ _ _ (zI ((rsV F (nP tb (U2 F ((mt (nf + k)) + 4))) (nL F tb (U2 F ((mt (nf + k)) + 4))) : Nat) : Int)) hS ⟨congrArg (fun x : Int => some (zV x)) (by unfold mtA; rw [if_pos ⟨decide_eq_true ⟨rfl, by omega, by omega⟩, by omega, by omega⟩, Int.toNat_natCast, show u.toNat = 5 by omega]; show _ = hvM F tb mt nf k 5; unfold hvM; exact hrs), rfl⟩ rfl dX11_method_112
  · refine y_tabOut C h16 (by omega) dX11_method_16 (tgt := 113) (by decide) ?_
    refine lv_iconst (v := zI (-1)) C.1 C.2.1 dX11_method_113 (by decide) ?_
    exact hret _ _ _ _ (zI (-1)) hS ⟨congrArg (fun x : Int => some (zV x)) (by unfold mtA; rw [if_neg (by omega)]), rfl⟩ rfl dX11_method_114

set_option maxHeartbeats 4000000 in
set_option maxRecDepth 20000 in
theorem c_met0 (l : Launch) (Z : zT) {H : Heap} {ad : Nat → Nat} {τ : mS} {X : List (Nat × va_E)} (hM : isC Z H ad τ X) {o v0 a0 : Nat} {kn fd : Int} (hR : zAt Z H o (.inr (7, rF v0 a0 (ad 0) kn fd))) {nm : Nat} (hx3 : τ.1 3 = zI (nm : Int)) (hnm : nm ≤ 24) {hv : Nat → Nat → Int} (t : Int) (ht : -2147483648 ≤ t ∧ t ≤ 2147483647) (hk : ¬ (0 ≤ t ∧ t < (nm : Int))) (u : Int) : zP l Z yX11_method cX11_method 4 (some .int) (rmk 3) [.ref o, zV t, zV u] H (zV (mtA true nm hv t u)) := by
  refine zM.introI (own := RX11) ⟨by decide, rfl⟩ (Nat.le_of_ble_eq_true rfl) ?_
  intro p e s m args below meth c Q ls hH C hl hret
  have hS : va_S (fun _ => False) s.heap H [] := by rw [hH]; exact va_S.rf
  have hl : lv_has ls 4 [(0, .ref o), (1, zV t), (2, zV u)] := hl
  refine lv_aload_n C.1 C.2.1 dX11_method_0 rfl (lv_at hl 0 rfl) ?_
  refine z_get C (v := .ref (ad 0)) hR rfl bi_wsX110 2 (by decide) zw_1_20 rfl rfl dX11_method_1 ?_
  refine lv_iload_n C.1 C.2.1 dX11_method_4 rfl (lv_at hl 1 rfl) ?_
  refine z_readV C (As := [zV t]) (rest := []) (c_bodyOf0 l Z hM hx3 hnm t (by omega) (by omega)) hM.img rfl ⟨⟨zw_16_18, zw_1_18, zw_37_19⟩, zd_X2_bodyOf⟩ zw_16_16 zw_16_17 ⟨Nat.le_of_ble_eq_true rfl, Nat.le_of_ble_eq_true rfl⟩ ⟨rfl, rfl⟩ rfl hl.1 rfl (Nat.le_of_ble_eq_true rfl) dX11_method_5 ⟨Nat.zero_le _, Nat.zero_le _⟩ hS (fun locs hS => ?_)
  refine lv_astore_nN (lv' := [(3, .null), (0, .ref o), (1, zV t), (2, zV u)]) C.1 C.2.1 dX11_method_8 rfl hl (by decide) rfl (fun ls hl => ?_)
  refine lv_aload_nN C.1 C.2.1 dX11_method_9 rfl (lv_at hl 0 rfl) ?_
  refine lv_ifnonnullN C.1 C.2.1 dX11_method_10 ?_
  refine lv_iconst (v := zI (-1)) C.1 C.2.1 dX11_method_13 (by decide) ?_
  exact hret _ _ _ _ (zI (-1)) hS ⟨congrArg (fun x : Int => some (zV x)) (by unfold mtA; rw [if_neg (fun z => hk (of_decide_eq_true z.1).2)]), rfl⟩ rfl dX11_method_14
