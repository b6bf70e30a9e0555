/-! the component: catches, a body, the bodies -/
theorem xCt_ok {F : Nat → Nat} {e q q2 : Nat} (h : xCt F e q = .ok q2) : q2 = q + 2 + 8 * U2 F q ∧ q2 ≤ e ∧ U2 F q ≤ 16 := by
  unfold xCt at h
  cases e1 : uS F e 14 q 0 16 13 with
  | error z => rw [e1] at h; cases h
  | ok q1 =>
    rw [e1] at h
    obtain ⟨-, -, -, u1⟩ := uS_ok e1
    simp only at h
    split at h
    · cases h; rename_i h1; exact ⟨rfl, h1, u1⟩
    · cases h
/-- the rows of body m, read out of the code attribute at a -/
def bdV (F : Nat → Nat) (a : Nat) (τ : mS) (m : Nat) : Prop := τ.2.1 21 m = zI (U2 F (a + 6) : Int) ∧ τ.2.1 22 m = zI (U2 F (a + 8) : Int) ∧ τ.2.1 24 m = zI ((a + 14 : Nat) : Int) ∧ τ.2.1 25 m = zI (cS F a : Int) ∧ τ.2.1 26 m = zI (cH F a : Int) ∧ τ.2.1 27 m = zI (cN F a : Int)

set_option maxHeartbeats 4000000 in
set_option maxRecDepth 20000 in
theorem c_X4_behindCatches (l : Launch) (Z : zT) {H : Heap} {ad : Nat → Nat} {τ : mS} {X : List (Nat × va_E)} (hM : isC Z H ad τ X) {F : Nat → Nat} {n : Nat} (hB : cSrc τ F n) {t en : Nat} (hX : (t, stE ad en 14) ∈ X) (hen0 : en ≤ n) {k bm : Nat} (hbm : bm < 24) (hk : k ≤ n) : zM l Z yX4_behindCatches cX4_behindCatches 4 (some .int) (rmk 4) [.ref (ad (16 + bm)), .ref t, zN k] H (cA ad) 0 0 (fun v H' => (∃ q, xCt F en k = .ok q ∧ v = some (zN q) ∧ q ≤ en ∧ ∃ τ' : mS, isC Z H' ad τ' X ∧ chg [] [26, 27] τ τ' ∧ oth τ τ' bm ∧ τ'.2.1 26 bm = zI ((k + 2 : Nat) : Int) ∧ τ'.2.1 27 bm = zI (U2 F k : Int)) ∨ (∃ r w, xCt F en k = .error (r, w) ∧ v = some (zV (-1)) ∧ gE Z H' ad X τ [8, 9] [26, 27] r w)) := by
  have hn := hB.2.2.2
  have hen : en ≤ 16000 := by omega
  have ho : oth τ τ bm := oth.rf
  refine zM.introI (own := RX4) ⟨by decide, rfl⟩ (Nat.le_of_ble_eq_true rfl) ?_
  intro p e s m args below meth c Q ls hH C hl hret
  have hS : va_S (cA ad) s.heap H [] := by rw [hH]; exact va_S.rf
  have hl : lv_has ls 4 [(0, .ref (ad (16 + bm))), (1, .ref t), (2, zN k)] := hl
  refine lv_aload_n C.1 C.2.1 dX4_behindCatches_0 rfl (lv_at hl 1 rfl) ?_
  refine lv_iload_n C.1 C.2.1 dX4_behindCatches_1 rfl (lv_at hl 2 rfl) ?_
  refine lv_iconst (v := zI 0) C.1 C.2.1 dX4_behindCatches_2 (by decide) ?_
  refine lv_bipush (v := zI 16) C.1 C.2.1 dX4_behindCatches_3 (by decide) ?_
  refine lv_bipush (v := zI 13) C.1 C.2.1 dX4_behindCatches_5 (by decide) ?_
  refine z_callV C (As := [zN k, zN 0, zN 16, zN 13]) (rest := []) (c_X8_behindU2 l Z hM hB hX hen0 (k := k) (lo := 0) (hi := 16) (rl := 13) (by omega) (by omega) (by omega) (by omega)) (hM.ex' hX) rfl ⟨⟨zw_9_20, zw_8_3, zw_9_17⟩, zd_X8_behindU2⟩ zw_9_18 zw_9_19 ⟨Nat.le_of_ble_eq_true rfl, Nat.le_of_ble_eq_true rfl⟩ ⟨rfl, rfl⟩ rfl hl.1 rfl (Nat.le_of_ble_eq_true rfl) dX4_behindCatches_7 ⟨Nat.zero_le _, Nat.zero_le _⟩ hS (fun _ h => h) (fun v H locs hp hS _ _ => ?_)
  rcases hp with ⟨q7, e7, rfl, hM, hb7⟩ | ⟨r7, w7, e7, rfl, hM⟩
  · obtain ⟨hu7, hv7, hw7⟩ := uS_ok e7
    subst hu7
    refine lv_istore_n (lv' := [(3, zN (k + 2)), (0, .ref (ad (16 + bm))), (1, .ref t), (2, zN k)]) C.1 C.2.1 dX4_behindCatches_10 rfl hl (by decide) rfl (fun ls hl => ?_)
    refine lv_iload_n C.1 C.2.1 dX4_behindCatches_11 rfl (lv_at hl 0 rfl) ?_
    refine lv_iconst (v := zI (-1)) C.1 C.2.1 dX4_behindCatches_12 (by decide) ?_
    refine y_icmp_ne (tgt := 18) C (a := ((k + 2 : Nat) : Int)) (b := -1) dX4_behindCatches_13 (by decide) (by omega) (fun h13 => ?_) (fun h13 => ?_)
    · refine lv_aload_n C.1 C.2.1 dX4_behindCatches_18 rfl (lv_at hl 1 rfl) ?_
      refine lv_aload_n C.1 C.2.1 dX4_behindCatches_19 rfl (lv_at hl 2 rfl) ?_
      refine z_get C (v := .ref (ad 1)) (hM.ex' hX) rfl bi_wsX80 0 (by decide) zw_9_4 rfl rfl dX4_behindCatches_20 ?_
      refine lv_iload_n C.1 C.2.1 dX4_behindCatches_23 rfl (lv_at hl 3 rfl) ?_
      refine z_readV C (As := [zN k]) (rest := [.ref (ad (16 + bm))]) (c_u2 l Z hM hB k rfl (by omega)) hM.byt rfl ⟨⟨zw_10_5, zw_2_15, zw_10_6⟩, zd_X1_u2⟩ zw_10_3 zw_10_4 ⟨Nat.le_of_ble_eq_true rfl, Nat.le_of_ble_eq_true rfl⟩ ⟨rfl, rfl⟩ rfl hl.1 rfl (Nat.le_of_ble_eq_true rfl) dX4_behindCatches_24 ⟨Nat.zero_le _, Nat.zero_le _⟩ hS (fun locs hS => ?_)
      have := U2_lt hB.1 k
      refine z_put C (v := zN (U2 F k)) tyX0 (hM.bod bm (by omega)) rfl bi_wsX00 tyX0_ok nmX0 7 (by decide) zw_20_2 rfl rfl rfl rfl (Nat.le_of_ble_eq_true rfl) hS (cA.k _ (by omega)) dX4_behindCatches_27 (fun H locs hu hn hS => ?_)
      have hM := hM.sb (m := bm) (by omega) 7 (by decide) hu hn
      have hB : cSrc (sb9 τ 7 bm (zI ((U2 F k : Nat) : Int))) F n := hB.sf (by decide)
      have ho : oth τ (sb9 τ 7 bm (zI ((U2 F k : Nat) : Int))) bm := ho.sb _ _
      refine lv_aload_n C.1 C.2.1 dX4_behindCatches_30 rfl (lv_at hl 1 rfl) ?_
      refine lv_iload_n C.1 C.2.1 dX4_behindCatches_31 rfl (lv_at hl 0 rfl) ?_
      refine z_put C (v := zN (k + 2)) tyX0 (hM.bod bm (by omega)) rfl bi_wsX00 tyX0_ok nmX0 6 (by decide) zw_20_3 rfl rfl rfl rfl (Nat.le_of_ble_eq_true rfl) hS (cA.k _ (by omega)) dX4_behindCatches_32 (fun H locs hu hn hS => ?_)
      have hM := hM.sb (m := bm) (by omega) 6 (by decide) hu hn
      have hB : cSrc (sb9 (sb9 τ 7 bm (zI ((U2 F k : Nat) : Int))) 6 bm (zI ((k + 2 : Nat) : Int))) F n := hB.sf (by decide)
      have ho : oth τ (sb9 (sb9 τ 7 bm (zI ((U2 F k : Nat) : Int))) 6 bm (zI ((k + 2 : Nat) : Int))) bm := ho.sb _ _
      refine lv_aload_n C.1 C.2.1 dX4_behindCatches_35 rfl (lv_at hl 2 rfl) ?_
      refine lv_iload_n C.1 C.2.1 dX4_behindCatches_36 rfl (lv_at hl 0 rfl) ?_
      refine lv_aload_n C.1 C.2.1 dX4_behindCatches_37 rfl (lv_at hl 1 rfl) ?_
      refine z_get C (v := .int ((sb9 (sb9 τ 7 bm (zI ((U2 F k : Nat) : Int))) 6 bm (zI ((k + 2 : Nat) : Int))).2.1 27 bm)) (hM.bod bm (by omega)) rfl bi_wsX00 7 (by decide) zw_20_2 rfl rfl dX4_behindCatches_38 ?_
      refine z_re (y := zI ((U2 F k : Nat) : Int)) (by repeat (first | exact sb9_at _ _ _ _ | rw [sb9_k _ _ _ (by decide)])) ?_
      refine lv_bipush (v := zI 8) C.1 C.2.1 dX4_behindCatches_41 (by decide) ?_
      refine y_imulN C (a := U2 F k) (b := 8) dX4_behindCatches_43 ?_
      refine z_callV C (As := [zN (k + 2), zN ((U2 F k) * 8)]) (rest := []) (c_X8_behind l Z hM hX (k + 2) (by omega) (((U2 F k) * 8 : Nat) : Int) (by omega) hen) (hM.ex' hX) rfl ⟨⟨zw_10_0, zw_8_3, zw_10_22⟩, zd_X8_behind⟩ zw_9_22 zw_9_23 ⟨Nat.le_of_ble_eq_true rfl, Nat.le_of_ble_eq_true rfl⟩ ⟨rfl, rfl⟩ rfl hl.1 rfl (Nat.le_of_ble_eq_true rfl) dX4_behindCatches_44 ⟨Nat.zero_le _, Nat.zero_le _⟩ hS (fun _ h => h) (fun v H locs hp hS _ _ => ?_)
      obtain ⟨hp1, hp2⟩ := hp
      rcases Classical.em (0 ≤ ((((U2 F k) * 8 : Nat) : Int) : Int) ∧ ((k + 2 : Nat) : Int) + (((U2 F k) * 8 : Nat) : Int) ≤ (en : Int)) with hc44 | hc44
      · obtain ⟨rfl, hM⟩ := hp1 hc44
        exact hret _ _ _ _ (zI (((k + 2) + ((U2 F k) * 8) : Nat) : Int)) hS (Or.inl ⟨_, (by unfold xCt; simp only [e7]; rw [if_pos (by omega)]), (congrArg (fun x : Int => some (zV x)) (by omega)), (by omega), _, hM, (chg_sf (by decide) (chg_sf (by decide) chg.rf)), ho, (by exact sb9_at _ _ _ _), (by (rw [sb9_k _ _ _ (by decide)]); exact sb9_at _ _ _ _)⟩) rfl dX4_behindCatches_47
      · obtain ⟨rfl, hM⟩ := hp2 hc44
        exact hret _ _ _ _ (zI (-1)) hS (Or.inr ⟨_, _, (by unfold xCt; simp only [e7]; rw [if_neg (by omega)]), rfl, _, hM, (chg_sx (by decide) (chg_sx (by decide) (chg_sf (by decide) (chg_sf (by decide) chg.rf)))), rfl, rfl⟩) rfl dX4_behindCatches_47
    · exact False.elim (by first | omega | exact h13 rfl)
  · skip
    refine lv_istore_n (lv' := [(3, zV (-1)), (0, .ref (ad (16 + bm))), (1, .ref t), (2, zN k)]) C.1 C.2.1 dX4_behindCatches_10 rfl hl (by decide) rfl (fun ls hl => ?_)
    refine lv_iload_n C.1 C.2.1 dX4_behindCatches_11 rfl (lv_at hl 0 rfl) ?_
    refine lv_iconst (v := zI (-1)) C.1 C.2.1 dX4_behindCatches_12 (by decide) ?_
    refine y_icmp_ne (tgt := 18) C (a := -1) (b := -1) dX4_behindCatches_13 (by decide) (by omega) (fun h13 => ?_) (fun h13 => ?_)
    · exact False.elim (by first | omega | exact h13 rfl)
    · refine lv_iconst (v := zI (-1)) C.1 C.2.1 dX4_behindCatches_16 (by decide) ?_
      exact hret _ _ _ _ (zI (-1)) hS (Or.inr ⟨_, _, (by unfold xCt; simp only [e7]), rfl, _, hM, (chg_sx (by decide) (chg_sx (by decide) chg.rf)), rfl, rfl⟩) rfl dX4_behindCatches_17

set_option maxHeartbeats 4000000 in
set_option maxRecDepth 20000 in
theorem c_X4_keepsInBody (l : Launch) (Z : zT) {H : Heap} {ad : Nat → Nat} {τ : mS} {X : List (Nat × va_E)} (hM : isC Z H ad τ X) {F : Nat → Nat} {n : Nat} (hB : cSrc τ F n) {t en : Nat} (hX : (t, stE ad en 14) ∈ X) (hen0 : en ≤ n) {a par bm : Nat} (hbm : bm < 24) (hpar : τ.2.1 23 bm = zI (par : Int)) (hp4 : par ≤ 400) (hae : a + 6 ≤ n) : zM l Z yX4_keepsInBody cX4_keepsInBody 4 (some .boolean) (rmk 5) [.ref (ad (16 + bm)), .ref t, zN (a + 6)] H (cA ad) 0 0 (fun v H' => (xKb F en a par = none ∧ v = some (zV 1) ∧ ∃ τ' : mS, isC Z H' ad τ' X ∧ chg [] [21, 22, 24, 25, 26, 27] τ τ' ∧ oth τ τ' bm ∧ bdV F a τ' bm) ∨ (∃ r w, xKb F en a par = some (r, w) ∧ v = some (zV 0) ∧ gE Z H' ad X τ [8, 9] [21, 22, 24, 25, 26, 27] r w)) := by
  have hn := hB.2.2.2
  have hen : en ≤ 16000 := by omega
  refine zM.introI (own := RX4) ⟨by decide, rfl⟩ (Nat.le_of_ble_eq_true rfl) ?_
  intro p e s m args below meth c Q ls hH C hl hret
  have hS : va_S (cA ad) s.heap H [] := by rw [hH]; exact va_S.rf
  have hl : lv_has ls 4 [(0, .ref (ad (16 + bm))), (1, .ref t), (2, zN (a + 6))] := hl
  refine lv_aload_n C.1 C.2.1 dX4_keepsInBody_0 rfl (lv_at hl 0 rfl) ?_
  refine lv_aload_n C.1 C.2.1 dX4_keepsInBody_1 rfl (lv_at hl 1 rfl) ?_
  refine lv_iload_n C.1 C.2.1 dX4_keepsInBody_2 rfl (lv_at hl 2 rfl) ?_
  refine z_callS C (As := [.ref (ad (16 + bm)), .ref t, zN (a + 6)]) (rest := []) (c_X4_behindCode l Z hM hB hX hen0 hbm hpar hp4 hae) ⟨⟨zw_19_18, zw_7_23, zw_19_16⟩, zd_X4_behindCode⟩ zw_19_17 ⟨Nat.le_of_ble_eq_true rfl, Nat.le_of_ble_eq_true rfl⟩ ⟨rfl, rfl⟩ rfl hl.1 rfl (Nat.le_of_ble_eq_true rfl) dX4_keepsInBody_3 ⟨Nat.zero_le _, Nat.zero_le _⟩ hS (fun _ h => h) (fun v H locs hp hS _ _ => ?_)
  rcases hp with ⟨q1, e1, rfl, hb1, τ1, hM, hc1, ho1, v21, v22, v24, v25⟩ | ⟨r1, w1, e1, rfl, τ1, hM, hc1, g8, g9⟩
  · have hB := hB.chg hc1 (by decide) (by decide)
    obtain ⟨k1, k2, k3, k4, k5, k6, k7⟩ := xCd_ok hB.1 e1
    refine lv_istore_n (lv' := [(3, zN q1), (0, .ref (ad (16 + bm))), (1, .ref t), (2, zN (a + 6))]) C.1 C.2.1 dX4_keepsInBody_6 rfl hl (by decide) rfl (fun ls hl => ?_)
    refine lv_iload_n C.1 C.2.1 dX4_keepsInBody_7 rfl (lv_at hl 0 rfl) ?_
    refine lv_iconst (v := zI (-1)) C.1 C.2.1 dX4_keepsInBody_8 (by decide) ?_
    refine y_icmp_eq (tgt := 19) C (a := ((q1 : Nat) : Int)) (b := -1) dX4_keepsInBody_9 (by decide) (by omega) (fun h9 => ?_) (fun h9 => ?_)
    · exact False.elim (by first | omega | exact h9 rfl)
    · refine lv_aload_n C.1 C.2.1 dX4_keepsInBody_12 rfl (lv_at hl 1 rfl) ?_
      refine lv_aload_n C.1 C.2.1 dX4_keepsInBody_13 rfl (lv_at hl 2 rfl) ?_
      refine lv_iload_n C.1 C.2.1 dX4_keepsInBody_14 rfl (lv_at hl 0 rfl) ?_
      refine z_callS C (As := [.ref (ad (16 + bm)), .ref t, zN q1]) (rest := []) (c_X4_behindCatches l Z hM hB hX hen0 hbm (k := q1) (by omega)) ⟨⟨zw_20_1, zw_7_23, zw_19_23⟩, zd_X4_behindCatches⟩ zw_20_0 ⟨Nat.le_of_ble_eq_true rfl, Nat.le_of_ble_eq_true rfl⟩ ⟨rfl, rfl⟩ rfl hl.1 rfl (Nat.le_of_ble_eq_true rfl) dX4_keepsInBody_15 ⟨Nat.zero_le _, Nat.zero_le _⟩ hS (fun _ h => h) (fun v H locs hp hS _ _ => ?_)
      rcases hp with ⟨q2, e2, rfl, hb2, τ2, hM, hc2, ho2, v26, v27⟩ | ⟨r2, w2, e2, rfl, τ2, hM, hc2, g8, g9⟩
      · have hB := hB.chg hc2 (by decide) (by decide)
        obtain ⟨m1, m2, m3⟩ := xCt_ok e2
        refine lv_istore_n (lv' := [(3, zN q2), (0, .ref (ad (16 + bm))), (1, .ref t), (2, zN (a + 6))]) C.1 C.2.1 dX4_keepsInBody_18 rfl hl (by decide) rfl (fun ls hl => ?_)
        refine lv_iload_n C.1 C.2.1 dX4_keepsInBody_19 rfl (lv_at hl 0 rfl) ?_
        refine lv_iconst (v := zI (-1)) C.1 C.2.1 dX4_keepsInBody_20 (by decide) ?_
        refine y_icmp_eq (tgt := 30) C (a := ((q2 : Nat) : Int)) (b := -1) dX4_keepsInBody_21 (by decide) (by omega) (fun h21 => ?_) (fun h21 => ?_)
        · exact False.elim (by first | omega | exact h21 rfl)
        · refine lv_aload_n C.1 C.2.1 dX4_keepsInBody_24 rfl (lv_at hl 2 rfl) ?_
          refine lv_iload_n C.1 C.2.1 dX4_keepsInBody_25 rfl (lv_at hl 0 rfl) ?_
          refine z_callV C (As := [zN q2]) (rest := []) (c_X8_behindAttributes l Z hM hB hX hen0 (k := q2) (by omega)) (hM.ex' hX) rfl ⟨⟨zw_12_21, zw_8_3, zw_12_18⟩, zd_X8_behindAttributes⟩ zw_12_19 zw_12_20 ⟨Nat.le_of_ble_eq_true rfl, Nat.le_of_ble_eq_true rfl⟩ ⟨rfl, rfl⟩ rfl hl.1 rfl (Nat.le_of_ble_eq_true rfl) dX4_keepsInBody_26 ⟨Nat.zero_le _, Nat.zero_le _⟩ hS (fun _ h => h) (fun v H locs hp hS _ _ => ?_)
          rcases hp with ⟨q3, e3, rfl, hM, hb3⟩ | ⟨r3, w3, e3, rfl, hM⟩
          · skip
            refine lv_istore_n (lv' := [(3, zN q3), (0, .ref (ad (16 + bm))), (1, .ref t), (2, zN (a + 6))]) C.1 C.2.1 dX4_keepsInBody_29 rfl hl (by decide) rfl (fun ls hl => ?_)
            refine lv_iload_n C.1 C.2.1 dX4_keepsInBody_30 rfl (lv_at hl 0 rfl) ?_
            refine lv_iconst (v := zI (-1)) C.1 C.2.1 dX4_keepsInBody_31 (by decide) ?_
            refine y_icmp_eq (tgt := 54) C (a := ((q3 : Nat) : Int)) (b := -1) dX4_keepsInBody_32 (by decide) (by omega) (fun h32 => ?_) (fun h32 => ?_)
            · exact False.elim (by first | omega | exact h32 rfl)
            · refine lv_iload_n C.1 C.2.1 dX4_keepsInBody_35 rfl (lv_at hl 0 rfl) ?_
              refine lv_aload_n C.1 C.2.1 dX4_keepsInBody_36 rfl (lv_at hl 2 rfl) ?_
              refine z_get C (v := zN en) (hM.ex' hX) rfl bi_wsX80 2 (by decide) zw_9_2 rfl rfl dX4_keepsInBody_37 ?_
              refine y_icmp_eq (tgt := 54) C (a := ((q3 : Nat) : Int)) (b := ((en : Nat) : Int)) dX4_keepsInBody_40 (by decide) (by omega) (fun h40 => ?_) (fun h40 => ?_)
              · refine lv_iload_n C.1 C.2.1 dX4_keepsInBody_54 rfl (lv_at hl 0 rfl) ?_
                refine lv_iconst (v := zI (-1)) C.1 C.2.1 dX4_keepsInBody_55 (by decide) ?_
                refine y_icmp_eq (tgt := 63) C (a := ((q3 : Nat) : Int)) (b := -1) dX4_keepsInBody_56 (by decide) (by omega) (fun h56 => ?_) (fun h56 => ?_)
                · exact False.elim (by first | omega | exact h56 rfl)
                · refine lv_iconst (v := zI 1) C.1 C.2.1 dX4_keepsInBody_59 (by decide) ?_
                  refine lv_goto (tgt := 64) C.1 C.2.1 dX4_keepsInBody_60 (by decide) ?_
                  exact hret _ _ _ _ (zI 1) hS (Or.inl ⟨(by unfold xKb; simp only [e1, e2, e3]; rw [if_pos (by omega)]), rfl, _, hM, (((hc1.mono (by decide) (by decide)).tr (hc2.mono (by decide) (by decide)))), ho1.tr ho2, (congrFun (hc2.2.1 21 (by decide)) bm).trans v21, (congrFun (hc2.2.1 22 (by decide)) bm).trans v22, (congrFun (hc2.2.1 24 (by decide)) bm).trans v24, (congrFun (hc2.2.1 25 (by decide)) bm).trans v25, v26.trans (zI_c (by show ((q1 + 2 : Nat) : Int) = ((a + 14 + cS F a + 2 : Nat) : Int); omega)), (by rw [v27, k1])⟩) rfl dX4_keepsInBody_64
              · refine lv_aload_n C.1 C.2.1 dX4_keepsInBody_43 rfl (lv_at hl 2 rfl) ?_
                refine z_get C (v := .ref (ad 15)) (hM.ex' hX) rfl bi_wsX80 1 (by decide) zw_9_3 rfl rfl dX4_keepsInBody_44 ?_
                refine lv_bipush (v := zI 14) C.1 C.2.1 dX4_keepsInBody_47 (by decide) ?_
                refine lv_iload_n C.1 C.2.1 dX4_keepsInBody_49 rfl (lv_at hl 0 rfl) ?_
                refine z_callV C (As := [zN 14, zN q3]) (rest := []) (c_X10_broken l Z hM (zI 14) (zI ((q3 : Nat) : Int))) hM.ver rfl ⟨⟨zw_9_8, zw_1_14, zw_9_5⟩, zd_X10_broken⟩ zw_9_6 zw_9_7 ⟨Nat.le_of_ble_eq_true rfl, Nat.le_of_ble_eq_true rfl⟩ ⟨rfl, rfl⟩ rfl hl.1 rfl (Nat.le_of_ble_eq_true rfl) dX4_keepsInBody_50 ⟨Nat.zero_le _, Nat.zero_le _⟩ hS (fun _ h => h) (fun v H locs hp hS _ _ => ?_)
                obtain ⟨rfl, hM⟩ := hp
                refine lv_istore_n (lv' := [(3, zV (-1)), (0, .ref (ad (16 + bm))), (1, .ref t), (2, zN (a + 6))]) C.1 C.2.1 dX4_keepsInBody_53 rfl hl (by decide) rfl (fun ls hl => ?_)
                refine lv_iload_n C.1 C.2.1 dX4_keepsInBody_54 rfl (lv_at hl 0 rfl) ?_
                refine lv_iconst (v := zI (-1)) C.1 C.2.1 dX4_keepsInBody_55 (by decide) ?_
                refine y_icmp_eq (tgt := 63) C (a := -1) (b := -1) dX4_keepsInBody_56 (by decide) (by omega) (fun h56 => ?_) (fun h56 => ?_)
                · refine lv_iconst (v := zI 0) C.1 C.2.1 dX4_keepsInBody_63 (by decide) ?_
                  exact hret _ _ _ _ (zI 0) hS (Or.inr ⟨_, _, (by unfold xKb; simp only [e1, e2, e3]; rw [if_neg (by omega)]), rfl, _, hM, (chg_sx (by decide) (chg_sx (by decide) ((hc1.mono (by decide) (by decide)).tr (hc2.mono (by decide) (by decide))))), rfl, rfl⟩) rfl dX4_keepsInBody_64
                · exact False.elim (by first | omega | exact h56 rfl)
          · skip
            refine lv_istore_n (lv' := [(3, zV (-1)), (0, .ref (ad (16 + bm))), (1, .ref t), (2, zN (a + 6))]) C.1 C.2.1 dX4_keepsInBody_29 rfl hl (by decide) rfl (fun ls hl => ?_)
            refine lv_iload_n C.1 C.2.1 dX4_keepsInBody_30 rfl (lv_at hl 0 rfl) ?_
            refine lv_iconst (v := zI (-1)) C.1 C.2.1 dX4_keepsInBody_31 (by decide) ?_
            refine y_icmp_eq (tgt := 54) C (a := -1) (b := -1) dX4_keepsInBody_32 (by decide) (by omega) (fun h32 => ?_) (fun h32 => ?_)
            · refine lv_iload_n C.1 C.2.1 dX4_keepsInBody_54 rfl (lv_at hl 0 rfl) ?_
              refine lv_iconst (v := zI (-1)) C.1 C.2.1 dX4_keepsInBody_55 (by decide) ?_
              refine y_icmp_eq (tgt := 63) C (a := -1) (b := -1) dX4_keepsInBody_56 (by decide) (by omega) (fun h56 => ?_) (fun h56 => ?_)
              · refine lv_iconst (v := zI 0) C.1 C.2.1 dX4_keepsInBody_63 (by decide) ?_
                exact hret _ _ _ _ (zI 0) hS (Or.inr ⟨_, _, (by unfold xKb; simp only [e1, e2, e3]), rfl, _, hM, (chg_sx (by decide) (chg_sx (by decide) ((hc1.mono (by decide) (by decide)).tr (hc2.mono (by decide) (by decide))))), rfl, rfl⟩) rfl dX4_keepsInBody_64
              · exact False.elim (by first | omega | exact h56 rfl)
            · exact False.elim (by first | omega | exact h32 rfl)
      · skip
        refine lv_istore_n (lv' := [(3, zV (-1)), (0, .ref (ad (16 + bm))), (1, .ref t), (2, zN (a + 6))]) C.1 C.2.1 dX4_keepsInBody_18 rfl hl (by decide) rfl (fun ls hl => ?_)
        refine lv_iload_n C.1 C.2.1 dX4_keepsInBody_19 rfl (lv_at hl 0 rfl) ?_
        refine lv_iconst (v := zI (-1)) C.1 C.2.1 dX4_keepsInBody_20 (by decide) ?_
        refine y_icmp_eq (tgt := 30) C (a := -1) (b := -1) dX4_keepsInBody_21 (by decide) (by omega) (fun h21 => ?_) (fun h21 => ?_)
        · refine lv_iload_n C.1 C.2.1 dX4_keepsInBody_30 rfl (lv_at hl 0 rfl) ?_
          refine lv_iconst (v := zI (-1)) C.1 C.2.1 dX4_keepsInBody_31 (by decide) ?_
          refine y_icmp_eq (tgt := 54) C (a := -1) (b := -1) dX4_keepsInBody_32 (by decide) (by omega) (fun h32 => ?_) (fun h32 => ?_)
          · refine lv_iload_n C.1 C.2.1 dX4_keepsInBody_54 rfl (lv_at hl 0 rfl) ?_
            refine lv_iconst (v := zI (-1)) C.1 C.2.1 dX4_keepsInBody_55 (by decide) ?_
            refine y_icmp_eq (tgt := 63) C (a := -1) (b := -1) dX4_keepsInBody_56 (by decide) (by omega) (fun h56 => ?_) (fun h56 => ?_)
            · refine lv_iconst (v := zI 0) C.1 C.2.1 dX4_keepsInBody_63 (by decide) ?_
              exact hret _ _ _ _ (zI 0) hS (Or.inr ⟨_, _, (by unfold xKb; simp only [e1, e2]), rfl, _, hM, (((hc1.mono (by decide) (by decide)).tr (hc2.mono (by decide) (by decide)))), g8, g9⟩) rfl dX4_keepsInBody_64
            · exact False.elim (by first | omega | exact h56 rfl)
          · exact False.elim (by first | omega | exact h32 rfl)
        · exact False.elim (by first | omega | exact h21 rfl)
  · skip
    refine lv_istore_n (lv' := [(3, zV (-1)), (0, .ref (ad (16 + bm))), (1, .ref t), (2, zN (a + 6))]) C.1 C.2.1 dX4_keepsInBody_6 rfl hl (by decide) rfl (fun ls hl => ?_)
    refine lv_iload_n C.1 C.2.1 dX4_keepsInBody_7 rfl (lv_at hl 0 rfl) ?_
    refine lv_iconst (v := zI (-1)) C.1 C.2.1 dX4_keepsInBody_8 (by decide) ?_
    refine y_icmp_eq (tgt := 19) C (a := -1) (b := -1) dX4_keepsInBody_9 (by decide) (by omega) (fun h9 => ?_) (fun h9 => ?_)
    · refine lv_iload_n C.1 C.2.1 dX4_keepsInBody_19 rfl (lv_at hl 0 rfl) ?_
      refine lv_iconst (v := zI (-1)) C.1 C.2.1 dX4_keepsInBody_20 (by decide) ?_
      refine y_icmp_eq (tgt := 30) C (a := -1) (b := -1) dX4_keepsInBody_21 (by decide) (by omega) (fun h21 => ?_) (fun h21 => ?_)
      · refine lv_iload_n C.1 C.2.1 dX4_keepsInBody_30 rfl (lv_at hl 0 rfl) ?_
        refine lv_iconst (v := zI (-1)) C.1 C.2.1 dX4_keepsInBody_31 (by decide) ?_
        refine y_icmp_eq (tgt := 54) C (a := -1) (b := -1) dX4_keepsInBody_32 (by decide) (by omega) (fun h32 => ?_) (fun h32 => ?_)
        · refine lv_iload_n C.1 C.2.1 dX4_keepsInBody_54 rfl (lv_at hl 0 rfl) ?_
          refine lv_iconst (v := zI (-1)) C.1 C.2.1 dX4_keepsInBody_55 (by decide) ?_
          refine y_icmp_eq (tgt := 63) C (a := -1) (b := -1) dX4_keepsInBody_56 (by decide) (by omega) (fun h56 => ?_) (fun h56 => ?_)
          · refine lv_iconst (v := zI 0) C.1 C.2.1 dX4_keepsInBody_63 (by decide) ?_
            exact hret _ _ _ _ (zI 0) hS (Or.inr ⟨_, _, (by unfold xKb; simp only [e1]), rfl, _, hM, ((hc1.mono (by decide) (by decide))), g8, g9⟩) rfl dX4_keepsInBody_64
          · exact False.elim (by first | omega | exact h56 rfl)
        · exact False.elim (by first | omega | exact h32 rfl)
      · exact False.elim (by first | omega | exact h21 rfl)
    · exact False.elim (by first | omega | exact h9 rfl)

/-- the code attribute of method i stands in the file -/
theorem cdL_at' (F tb : Nat → Nat) (a : Nat) : ∀ j, 1 ≤ (cdL F tb a j).1 → ∃ i, i < j ∧ (cdL F tb a j).2 = atp F a i := by
  intro j
  induction j with
  | zero => intro h; exact absurd h (by show ¬ 1 ≤ 0; omega)
  | succ j ih =>
    intro h
    unfold cdL at h ⊢
    split
    · exact ⟨j, by omega, rfl⟩
    · rename_i z
      rw [if_neg z] at h
      obtain ⟨i, a1, a2⟩ := ih h
      exact ⟨i, by omega, a2⟩
theorem x12_c {F tb mt : Nat → Nat} {nf nm i : Nat} (h : x12 F tb mt nf (nf + nm) = none) (hi : i < nm) : (cdA F tb (mt (nf + i) + 6)).1 = 1 := by
  rw [x12_r] at h
  have e := fst1_none _ _ h i (Nat.zero_le _) (by omega)
  unfold g12 at e
  split at e
  · assumption
  · cases e
theorem cP_in {F tb mt : Nat → Nat} {n cl nf nm fa last i : Nat} (hp : pLay F n tb cl nf nm mt fa last) (h : x12 F tb mt nf (nf + nm) = none) (hi : i < nm) : mt (nf + i) + 8 ≤ cP F tb mt nf i ∧ cE F (cP F tb mt nf i) ≤ n ∧ cE F (cP F tb mt nf i) ≤ atp F (mt (nf + i) + 6) (U2 F (mt (nf + i) + 6)) := by
  have h1 := x12_c h hi
  obtain ⟨j, a1, a2⟩ := cdL_at' F tb (mt (nf + i) + 6) (U2 F (mt (nf + i) + 6)) (by show 1 ≤ (cdA F tb (mt (nf + i) + 6)).1; omega)
  have a2 : cP F tb mt nf i = atp F (mt (nf + i) + 6) j := a2
  have b := (hp.m2 hi).2.2.2 j a1
  have c : atp F (mt (nf + i) + 6) 0 ≤ atp F (mt (nf + i) + 6) j := atp_le _ (Nat.zero_le _)
  have c' : mt (nf + i) + 8 ≤ atp F (mt (nf + i) + 6) j := c
  have e : cE F (cP F tb mt nf i) = cP F tb mt nf i + 6 + U4 F (cP F tb mt nf i + 2) := rfl
  rw [e, a2]
  exact ⟨c', b.1, b.2⟩
theorem x10_pp {F tb mt : Nat → Nat} {pc nf nm i : Nat} (h : x10 F tb pc mt nf (nf + nm) = none) (hi : i < nm) : 0 ≤ ppN F tb (U2 F (mt (nf + i) + 4)) ∧ ppN F tb (U2 F (mt (nf + i) + 4)) ≤ 8 := by
  unfold x10 at h
  have e := fst1_none _ _ (orN h).2 (nf + i) (Nat.zero_le _) (by omega)
  unfold g10m at e
  rw [if_neg (by omega)] at e
  split at e
  · assumption
  · cases e
def paN (F tb : Nat → Nat) (k : Nat) : Nat := paV F (nP tb k) (nL F tb k)
theorem paN_pp {F tb : Nat → Nat} {k : Nat} (h : 0 ≤ ppN F tb k) : ppN F tb k = (paN F tb k : Int) := (rsV_pp F (nP tb k) (nL F tb k)).2 h

set_option maxHeartbeats 4000000 in
set_option maxRecDepth 20000 in
theorem c_X4_keepsInBodies (l : Launch) (Z : zT) {H : Heap} {ad : Nat → Nat} {τ : mS} {X : List (Nat × va_E)} (hM : isC Z H ad τ X) {F : Nat → Nat} {n : Nat} (hB : cSrc τ F n) {tb mt : Nat → Nat} {cl nf nm fa last : Nat} (hL : cLay τ F tb cl nf nm mt fa last) (hp : pLay F n tb cl nf nm mt fa last) (hx6 : x6 F tb (U2 F 8) = none) (hx9 : x9 F tb (U2 F 8) mt (nf + nm) fa = none) (hx10 : x10 F tb (U2 F 8) mt nf (nf + nm) = none) (hx12 : x12 F tb mt nf (nf + nm) = none) (h20 : ∀ i, i < nm → τ.2.1 20 i = zI (cP F tb mt nf i : Int)) {h0 : Nat} (hh0 : h0 ≤ H.size) : zM l Z yX4_keepsInBodies cX4_keepsInBodies 6 (some .boolean) { rmk 8 with cells := 24, slots := 96 } [.ref (ad 0), .ref (ad 15)] H (kA ad h0) 24 96 (fun v H' => (fst2 (x13f F tb mt nf) nm 0 = none ∧ v = some (zV 1) ∧ ∃ τ' : mS, isC Z H' ad τ' X ∧ chg [] [21, 22, 23, 24, 25, 26, 27] τ τ' ∧ ∀ j, j < nm → bdV F (cP F tb mt nf j) τ' j ∧ τ'.2.1 23 j = zI (paN F tb (U2 F (mt (nf + j) + 4)) : Int)) ∨ (∃ r w, fst2 (x13f F tb mt nf) nm 0 = some (r, w) ∧ v = some (zV 0) ∧ gE Z H' ad X τ [8, 9] [21, 22, 23, 24, 25, 26, 27] r w)) := by
  have hn := hB.2.2.2
  have hP := hL.1
  obtain ⟨p1, p2, p3, p4, p5, p6, p7, p8, p9, p10, p11, p12⟩ := id hp
  obtain ⟨q1, q2, q3, q4, q5, q6, q7, q8, q9⟩ := id hL
  have hpp := p4
  refine zM.introI (own := RX4) ⟨by decide, rfl⟩ (Nat.le_of_ble_eq_true rfl) ?_
  intro p e s m args below meth c Q ls hH C hl hret
  have hS : va_S (kA ad h0) s.heap H [] := by rw [hH]; exact va_S.rf
  have hl : lv_has ls 6 [(0, .ref (ad 0)), (1, .ref (ad 15))] := hl
  refine lv_iconst (v := zI 0) C.1 C.2.1 dX4_keepsInBodies_0 (by decide) ?_
  refine lv_istore_n (lv' := [(2, zN 0), (0, .ref (ad 0)), (1, .ref (ad 15))]) C.1 C.2.1 dX4_keepsInBodies_1 rfl hl (by decide) rfl (fun ls hl => ?_)
  have loop : ∀ (fu : Nat) (i : Nat) (τ1 : mS) (H : Heap) (ls : Array Slot) (locs : List Loc), va_S (kA ad h0) s.heap H locs → isC Z H ad τ1 X → (i ≤ nm ∧ nm < i + fu) → (chg [] [21, 22, 23, 24, 25, 26, 27] τ τ1) → (cSrc τ1 F n) → (h0 ≤ H.size) → (∀ j, j < i → bdV F (cP F tb mt nf j) τ1 j ∧ τ1.2.1 23 j = zI (paN F tb (U2 F (mt (nf + j) + 4)) : Int)) → (fst2 (x13f F tb mt nf) (nm - i) i = fst2 (x13f F tb mt nf) nm 0) → lv_has ls 6 [(2, zN i), (0, .ref (ad 0)), (1, .ref (ad 15))] → W p l e { rmk 8 with cells := 24, slots := 96 } s m args below meth c H locs i (4 * i) Q (F0 m 2 ls []) := by
    intro fu
    induction fu with
    | zero =>
      intro i τ1 H ls locs hS hM hi hc hB hh hbd he hl
      (exact absurd hi.2 (by omega))
    | succ fu ih_loop =>
      intro i τ1 H ls locs hS hM hi hc hB hh hbd he hl
      refine lv_iload_n C.1 C.2.1 dX4_keepsInBodies_2 rfl (lv_at hl 0 rfl) ?_
      refine lv_aload_n C.1 C.2.1 dX4_keepsInBodies_3 rfl (lv_at hl 1 rfl) ?_
      refine z_get C (v := .int (τ1.1 3)) hM.img rfl bi_wsX20 7 (by decide) zw_8_10 rfl rfl dX4_keepsInBodies_4 ?_
      refine z_re (y := zI ((nm : Nat) : Int)) ((hc.1 3 (by decide)).trans hL.2.2.2.1) ?_
      refine y_icmp_ge (tgt := 108) C (a := ((i : Nat) : Int)) (b := ((nm : Nat) : Int)) dX4_keepsInBodies_7 (by decide) (by omega) (fun h7 => ?_) (fun h7 => ?_)
      · refine lv_iconst (v := zI 1) C.1 C.2.1 dX4_keepsInBodies_108 (by decide) ?_
        refine W.widen (k := 24) (n := 96) (by omega) (by omega) ?_
        exact hret _ _ _ _ (zI 1) hS (Or.inl ⟨(by rw [← he, show nm - i = 0 by omega]; rfl), rfl, τ1, hM, hc, fun j hj => hbd j (by omega)⟩) rfl dX4_keepsInBodies_109
      · have hx3 : τ1.1 3 = zI (nm : Int) := (hc.1 3 (by decide)).trans hL.2.2.2.1
        have hnm : nm ≤ 24 := p8
        have hm2 := (hp.m2 (j := i) (by omega)).1
        have hx := x9_nm hx9 (j := nf + i) (by omega)
        have hci := cP_in hp hx12 (i := i) (by omega)
        have hpp0 := x10_pp hx10 (i := i) (by omega)
        have hpn := paN_pp hpp0.1
        have hce : cE F (cP F tb mt nf i) = cP F tb mt nf i + 6 + U4 F (cP F tb mt nf i + 2) := rfl
        have hs4 := S4_U4 hB.1 (cP F tb mt nf i + 2)
        refine lv_aload_n C.1 C.2.1 dX4_keepsInBodies_10 rfl (lv_at hl 1 rfl) ?_
        refine lv_iload_n C.1 C.2.1 dX4_keepsInBodies_11 rfl (lv_at hl 0 rfl) ?_
        refine z_readV C (As := [zN i]) (rest := []) (c_bodyOf l Z hM hx3 hnm i rfl (by omega)) hM.img rfl ⟨⟨zw_16_18, zw_1_18, zw_19_10⟩, zd_X2_bodyOf⟩ zw_16_16 zw_16_17 ⟨Nat.le_of_ble_eq_true rfl, Nat.le_of_ble_eq_true rfl⟩ ⟨rfl, rfl⟩ rfl hl.1 rfl (Nat.le_of_ble_eq_true rfl) dX4_keepsInBodies_12 ⟨(by show _ ≤ (24 : Nat); omega), (by show _ ≤ (96 : Nat); omega)⟩ hS (fun locs hS => ?_)
        refine lv_astore_n (lv' := [(3, .ref (ad (16 + i))), (2, zN i), (0, .ref (ad 0)), (1, .ref (ad 15))]) C.1 C.2.1 dX4_keepsInBodies_15 rfl hl (by decide) rfl (fun ls hl => ?_)
        refine lv_aload_n C.1 C.2.1 dX4_keepsInBodies_16 rfl (lv_at hl 0 rfl) ?_
        refine lv_ifnonnull (tgt := 22) C.1 C.2.1 dX4_keepsInBodies_17 (by decide) ?_
        refine lv_aload_n C.1 C.2.1 dX4_keepsInBodies_22 rfl (lv_at hl 0 rfl) ?_
        refine lv_aload_n C.1 C.2.1 dX4_keepsInBodies_23 rfl (lv_at hl 2 rfl) ?_
        refine z_get C (v := .ref (ad 3)) hM.img rfl bi_wsX20 1 (by decide) zw_8_6 rfl rfl dX4_keepsInBodies_24 ?_
        refine z_get C (v := .ref (ad 9)) hM.pol rfl bi_wsX70 6 (by decide) zw_19_7 rfl rfl dX4_keepsInBodies_27 ?_
        refine lv_aload_n C.1 C.2.1 dX4_keepsInBodies_30 rfl (lv_at hl 2 rfl) ?_
        refine lv_aload_n C.1 C.2.1 dX4_keepsInBodies_31 rfl (lv_at hl 2 rfl) ?_
        refine z_get C (v := .ref (ad 12)) hM.img rfl bi_wsX20 3 (by decide) zw_8_11 rfl rfl dX4_keepsInBodies_32 ?_
        refine lv_iload_n C.1 C.2.1 dX4_keepsInBodies_35 rfl (lv_at hl 1 rfl) ?_
        refine z_readSN C (As := [.ref (ad 12), zN i]) (rest := [.ref (ad 0), .ref (ad 9), .ref (ad (16 + i))]) (c_at l Z (hM.row 12 (by decide)) (by decide) i rfl (by show _ < 24; omega)) ⟨⟨zw_11_13, zw_1_2⟩, zd_X11_at⟩ (by decide) zw_11_12 ⟨Nat.le_of_ble_eq_true rfl, Nat.le_of_ble_eq_true rfl⟩ ⟨rfl, rfl⟩ rfl hl.1 rfl (Nat.le_of_ble_eq_true rfl) dX4_keepsInBodies_36 ⟨(by show _ ≤ (24 : Nat); omega), (by show _ ≤ (96 : Nat); omega)⟩ hS (fun locs hS => ?_)
        refine z_re (y := zI ((mt (nf + i) : Nat) : Int)) ((congrFun (hc.2.1 12 (by decide)) _).trans (q9 i (by omega))) ?_
        refine z_readV C (As := [zN (mt (nf + i))]) (rest := [.ref (ad 9), .ref (ad (16 + i))]) (c_X2_typeOf l Z hM hB (mt (nf + i)) rfl (by omega)) hM.img rfl ⟨⟨zw_15_12, zw_1_18, zw_19_11⟩, zd_X2_typeOf⟩ zw_15_10 zw_15_11 ⟨Nat.le_of_ble_eq_true rfl, Nat.le_of_ble_eq_true rfl⟩ ⟨rfl, rfl⟩ rfl hl.1 rfl (Nat.le_of_ble_eq_true rfl) dX4_keepsInBodies_39 ⟨(by show _ ≤ (24 : Nat); omega), (by show _ ≤ (96 : Nat); omega)⟩ hS (fun locs hS => ?_)
        have hnt39 := U2_lt hB.1 ((mt (nf + i)) + 4)
        refine z_readSN C (As := [.ref (ad 9), zN (U2 F ((mt (nf + i)) + 4))]) (rest := [.ref (ad (16 + i))]) (c_at l Z (hM.row 9 (by decide)) (by decide) (U2 F ((mt (nf + i)) + 4)) rfl (by show _ < 500; omega)) ⟨⟨zw_11_13, zw_1_2⟩, zd_X11_at⟩ (by decide) zw_11_12 ⟨Nat.le_of_ble_eq_true rfl, Nat.le_of_ble_eq_true rfl⟩ ⟨rfl, rfl⟩ rfl hl.1 rfl (Nat.le_of_ble_eq_true rfl) dX4_keepsInBodies_42 ⟨(by show _ ≤ (24 : Nat); omega), (by show _ ≤ (96 : Nat); omega)⟩ hS (fun locs hS => ?_)
        refine z_re (y := zI ((paN F tb (U2 F ((mt (nf + i)) + 4)) : Nat) : Int)) ((congrFun (hc.2.1 9 (by decide)) _).trans (q2 (U2 F ((mt (nf + i)) + 4)) (by omega) (by omega) hx.2.1.2.2).2.2) ?_
        refine z_put C (v := zN (paN F tb (U2 F ((mt (nf + i)) + 4)))) tyX0 (hM.bod i (by omega)) rfl bi_wsX00 tyX0_ok nmX0 3 (by decide) zw_19_8 rfl rfl rfl rfl (Nat.le_of_ble_eq_true rfl) hS (Or.inl (cA.k _ (by omega))) dX4_keepsInBodies_45 (fun H locs hu hn hS => ?_)
        have hM := hM.sb (m := i) (by omega) 3 (by decide) hu hn
        have hB : cSrc (sb9 τ1 3 i (zI ((paN F tb (U2 F ((mt (nf + i)) + 4)) : Nat) : Int))) F n := hB.sf (by decide)
        have hh : h0 ≤ H.size := by have := hu.1; omega
        refine lv_aload_n C.1 C.2.1 dX4_keepsInBodies_48 rfl (lv_at hl 0 rfl) ?_
        refine z_get C (v := .int ((sb9 τ1 3 i (zI ((paN F tb (U2 F ((mt (nf + i)) + 4)) : Nat) : Int))).2.1 20 i)) (hM.bod i (by omega)) rfl bi_wsX00 0 (by decide) zw_19_9 rfl rfl dX4_keepsInBodies_49 ?_
        refine z_re (y := zI ((cP F tb mt nf i : Nat) : Int)) ((congrFun (sb9_k τ1 (k := 3) (j := 20) i _ (by decide)) i).trans ((congrFun (hc.2.1 20 (by decide)) _).trans (h20 i (by omega)))) ?_
        refine lv_bipush (v := zI 6) C.1 C.2.1 dX4_keepsInBodies_52 (by decide) ?_
        refine y_iaddN C (a := cP F tb mt nf i) (b := 6) dX4_keepsInBodies_54 ?_
        refine lv_istore (lv' := [(4, zN ((cP F tb mt nf i) + 6)), (3, .ref (ad (16 + i))), (2, zN i), (0, .ref (ad 0)), (1, .ref (ad 15))]) C.1 C.2.1 dX4_keepsInBodies_55 hl (by decide) rfl (fun ls hl => ?_)
        refine lv_iload C.1 C.2.1 dX4_keepsInBodies_57 (lv_at hl 0 rfl) ?_
        refine lv_aload_n C.1 C.2.1 dX4_keepsInBodies_59 rfl (lv_at hl 3 rfl) ?_
        refine z_get C (v := .ref (ad 1)) hM.img rfl bi_wsX20 0 (by decide) zw_8_4 rfl rfl dX4_keepsInBodies_60 ?_
        refine lv_aload_n C.1 C.2.1 dX4_keepsInBodies_63 rfl (lv_at hl 1 rfl) ?_
        refine z_get C (v := .int ((sb9 τ1 3 i (zI ((paN F tb (U2 F ((mt (nf + i)) + 4)) : Nat) : Int))).2.1 20 i)) (hM.bod i (by omega)) rfl bi_wsX00 0 (by decide) zw_19_9 rfl rfl dX4_keepsInBodies_64 ?_
        refine z_re (y := zI ((cP F tb mt nf i : Nat) : Int)) ((congrFun (sb9_k τ1 (k := 3) (j := 20) i _ (by decide)) i).trans ((congrFun (hc.2.1 20 (by decide)) _).trans (h20 i (by omega)))) ?_
        refine lv_iconst (v := zI 2) C.1 C.2.1 dX4_keepsInBodies_67 (by decide) ?_
        refine y_iaddN C (a := cP F tb mt nf i) (b := 2) dX4_keepsInBodies_68 ?_
        refine z_readV C (As := [zN ((cP F tb mt nf i) + 2)]) (rest := [zN ((cP F tb mt nf i) + 6)]) (c_s4 l Z hM hB ((cP F tb mt nf i) + 2) rfl (by omega)) hM.byt rfl ⟨⟨zw_13_1, zw_2_15, zw_19_12⟩, zd_X1_s4⟩ zw_12_23 zw_13_0 ⟨Nat.le_of_ble_eq_true rfl, Nat.le_of_ble_eq_true rfl⟩ ⟨rfl, rfl⟩ rfl hl.1 rfl (Nat.le_of_ble_eq_true rfl) dX4_keepsInBodies_69 ⟨(by show _ ≤ (24 : Nat); omega), (by show _ ≤ (96 : Nat); omega)⟩ hS (fun locs hS => ?_)
        have := S4_rg hB.1 ((cP F tb mt nf i) + 2)
        refine y_iadd C (a := (((cP F tb mt nf i) + 6 : Nat) : Int)) (b := S4 F ((cP F tb mt nf i) + 2)) dX4_keepsInBodies_72 ?_
        refine z_re (y := zI ((cE F (cP F tb mt nf i) : Nat) : Int)) (zI_c (by omega)) ?_
        refine lv_istore (lv' := [(5, zN (cE F (cP F tb mt nf i))), (4, zN ((cP F tb mt nf i) + 6)), (3, .ref (ad (16 + i))), (2, zN i), (0, .ref (ad 0)), (1, .ref (ad 15))]) C.1 C.2.1 dX4_keepsInBodies_73 hl (by decide) rfl (fun ls hl => ?_)
        refine lv_aload_n C.1 C.2.1 dX4_keepsInBodies_75 rfl (lv_at hl 2 rfl) ?_
        refine z_stretch C hM zw_8_1 hh (by show _ ≤ (24 : Nat); omega) (by show _ ≤ (96 : Nat); omega) hS dX4_keepsInBodies_76 (fun t H0 H1 ht hM0 hq hz1 hht hoo hS => ?_)
        have hM := hM0.keep (H1 := H1) (fun i hi => hoo _ (hM0.lt hi)) (fun q hq => (hM0.ex hq).kept (hoo _ (hM0.ex hq).lt))
        refine lv_dup C.1 C.2.1 dX4_keepsInBodies_79 rfl ?_
        refine lv_aload_n C.1 C.2.1 dX4_keepsInBodies_80 rfl (lv_at hl 4 rfl) ?_
        refine z_get C (v := .ref (ad 1)) hM.img rfl bi_wsX20 0 (by decide) zw_8_4 rfl rfl dX4_keepsInBodies_81 ?_
        refine lv_aload_n C.1 C.2.1 dX4_keepsInBodies_84 rfl (lv_at hl 5 rfl) ?_
        refine lv_iload C.1 C.2.1 dX4_keepsInBodies_85 (lv_at hl 0 rfl) ?_
        refine lv_bipush (v := zI 14) C.1 C.2.1 dX4_keepsInBodies_87 (by decide) ?_
        refine z_callI C (As := [.ref (ad 1), .ref (ad 15), zN (cE F (cP F tb mt nf i)), zN 14]) (rest := [.ref t, .ref (ad (16 + i))]) (c_X8_init l Z hq) ⟨⟨zw_8_16, zw_8_3, zw_8_14⟩, zd_X8_init⟩ zw_8_15 rfl ⟨Nat.le_of_ble_eq_true rfl, Nat.le_of_ble_eq_true rfl⟩ ⟨rfl, rfl⟩ rfl hl.1 rfl (Nat.le_of_ble_eq_true rfl) dX4_keepsInBodies_89 ⟨(by show _ ≤ (24 : Nat); omega), (by show _ ≤ (96 : Nat); omega)⟩ hS (fun x hx => Or.inr (by rw [hx]; exact hht)) (fun v H locs hp hS hzz _ => ?_)
        obtain ⟨rfl, hu0, hq⟩ := hp
        have hM := hM0.addX ht hoo hu0 hq
        have hX := List.mem_cons_self (a := (t, stE ad (cE F (cP F tb mt nf i)) 14)) (l := X)
        have hh : h0 ≤ H.size := by have := hu0.1; omega
        refine lv_iload C.1 C.2.1 dX4_keepsInBodies_92 (lv_at hl 1 rfl) ?_
        refine z_callS C (As := [.ref (ad (16 + i)), .ref t, zN ((cP F tb mt nf i) + 6)]) (rest := []) (c_X4_keepsInBody l Z hM hB hX hci.2.1 (a := cP F tb mt nf i) (par := paN F tb (U2 F (mt (nf + i) + 4))) (bm := i) (by omega) (sb9_at _ 3 i _) (by omega) (by omega)) ⟨⟨zw_19_15, zw_7_23, zw_19_13⟩, zd_X4_keepsInBody⟩ zw_19_14 ⟨Nat.le_of_ble_eq_true rfl, Nat.le_of_ble_eq_true rfl⟩ ⟨rfl, rfl⟩ rfl hl.1 rfl (Nat.le_of_ble_eq_true rfl) dX4_keepsInBodies_94 ⟨(by show _ ≤ (24 : Nat); omega), (by show _ ≤ (96 : Nat); omega)⟩ hS (fun _ h => Or.inl h) (fun v H locs hp hS hsz _ => ?_)
        have hh : h0 ≤ H.size := by omega
        rcases hp with ⟨e1, rfl, τ2, hM, hc2, ho2, hbv⟩ | ⟨r1, w1, e1, rfl, τ2, hM, hc2, g8, g9⟩
        · have hM := hM.drop
          have hxe : x13f F tb mt nf i = none := by unfold x13f; rw [paN_pp hpp0.1, ← xKb_x hB.1]; exact e1
          have hB := hB.chg hc2 (by decide) (by decide)
          refine y_if_ne (tgt := 102) C (a := 1) dX4_keepsInBodies_97 (by decide) (by omega) (fun h97 => ?_) (fun h97 => ?_)
          · refine lv_iinc (v := zI ((i + 1 : Nat) : Int)) (lv' := [(2, zN (i + 1)), (5, zN (cE F (cP F tb mt nf i))), (4, zN ((cP F tb mt nf i) + 6)), (3, .ref (ad (16 + i))), (0, .ref (ad 0)), (1, .ref (ad 15))]) C.1 C.2.1 dX4_keepsInBodies_102 hl (k := 3) rfl (zI_add _ _) (by decide) rfl (fun ls hl => ?_)
            refine lv_goto (tgt := 2) C.1 C.2.1 dX4_keepsInBodies_105 (by decide) ?_
            exact ih_loop (i + 1) _ _ ls _ hS hM (by omega) ((chg_sf (by decide) hc).tr (hc2.mono (by decide) (by decide))) hB hh (fun j hj => by rcases Nat.lt_succ_iff_lt_or_eq.mp hj with h | h; (obtain ⟨⟨a1, a2, a3, a4, a5, a6⟩, a7⟩ := hbd j h; have K : ∀ k, τ2.2.1 k j = τ1.2.1 k j := fun k => (ho2 k j (by omega)).trans (sb9_m _ _ _ (by omega)); unfold bdV; rw [K, K, K, K, K, K, K]; exact ⟨⟨a1, a2, a3, a4, a5, a6⟩, a7⟩); (subst h; exact ⟨hbv, (congrFun (hc2.2.1 23 (by decide)) j).trans (sb9_at _ 3 j _)⟩)) (by rw [← he, show nm - i = (nm - (i + 1)) + 1 by omega, fst2_s hxe]) (lv_sub hl [0, 4, 5] rfl)
          · exact False.elim (by first | omega | exact h97 rfl)
        · have hM := hM.drop
          have hxe : x13f F tb mt nf i = some (r1, w1) := by unfold x13f; rw [paN_pp hpp0.1, ← xKb_x hB.1]; exact e1
          refine y_if_ne (tgt := 102) C (a := 0) dX4_keepsInBodies_97 (by decide) (by omega) (fun h97 => ?_) (fun h97 => ?_)
          · exact False.elim (by first | omega | exact h97 rfl)
          · refine lv_iconst (v := zI 0) C.1 C.2.1 dX4_keepsInBodies_100 (by decide) ?_
            refine W.widen (k := 24) (n := 96) (by omega) (by omega) ?_
            exact hret _ _ _ _ (zI 0) hS (Or.inr ⟨r1, w1, (by rw [← he, show nm - i = (nm - (i + 1)) + 1 by omega, fst2_e hxe]), rfl, τ2, hM, (((chg_sf (by decide) hc).mono (by decide) (by decide)).tr (hc2.mono (by decide) (by decide))), g8, g9⟩) rfl dX4_keepsInBodies_101
  exact loop (nm + 1) 0 _ _ ls _ hS hM (by omega) chg.rf hB hh0 (fun j hj => by omega) rfl hl
