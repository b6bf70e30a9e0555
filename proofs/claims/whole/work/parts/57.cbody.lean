/-! the component: rules 13 and 14 -/
theorem sb9_at (τ : mS) (k m : Nat) (v : Int32) : (sb9 τ k m v).2.1 (20 + k) m = v := by rw [sf_at]; exact upd_2
theorem sb9_k (τ : mS) {k j : Nat} (m : Nat) (v : Int32) (h : j ≠ 20 + k) : (sb9 τ k m v).2.1 j = τ.2.1 j := sf_no τ _ h
theorem sb9_m (τ : mS) {k j i : Nat} (m : Nat) (v : Int32) (h : i ≠ m) : (sb9 τ k m v).2.1 j i = τ.2.1 j i := by
  by_cases e : j = 20 + k
  · subst e; rw [sf_at]; exact upd_ne h
  · rw [sb9_k _ _ _ e]
/-- only body m may be another -/
def oth (τ τ' : mS) (m : Nat) : Prop := ∀ k i, i ≠ m → τ'.2.1 k i = τ.2.1 k i
theorem oth.rf {τ : mS} {m : Nat} : oth τ τ m := fun _ _ _ => rfl
theorem oth.tr {τ τ1 τ2 : mS} {m : Nat} (h : oth τ τ1 m) (k : oth τ1 τ2 m) : oth τ τ2 m := fun a i hi => (k a i hi).trans (h a i hi)
theorem oth.sb {τ τ1 : mS} {m : Nat} (k : Nat) (v : Int32) (h : oth τ τ1 m) : oth τ (sb9 τ1 k m v) m := fun a i hi => (sb9_m _ _ _ hi).trans (h a i hi)
def xCd (F : Nat → Nat) (e a par : Nat) : Except E2 Nat := match uS F e 14 (a + 6) 0 24 13 with
  | .error z => .error z
  | .ok _ => match uS F e 14 (a + 8) par 24 13 with
    | .error z => .error z
    | .ok _ => if a + 14 ≤ e then (if 1 ≤ S4 F (a + 10) ∧ S4 F (a + 10) ≤ 1200 then (if a + 14 + cS F a ≤ e then .ok (a + 14 + cS F a) else .error (14, e)) else .error (13, a + 10)) else .error (14, e)
def xCt (F : Nat → Nat) (e q : Nat) : Except E2 Nat := match uS F e 14 q 0 16 13 with
  | .error z => .error z
  | .ok _ => if q + 2 + 8 * U2 F q ≤ e then .ok (q + 2 + 8 * U2 F q) else .error (14, e)
def xKb (F : Nat → Nat) (e a par : Nat) : Option E2 := match xCd F e a par with
  | .error z => some z
  | .ok q => match xCt F e q with
    | .error z => some z
    | .ok q2 => match aAs F e 14 q2 with
      | .error z => some z
      | .ok q3 => if q3 = e then none else some (14, q3)
theorem xCd_ok {F : Nat → Nat} {e a par q : Nat} (hF : isF F) (h : xCd F e a par = .ok q) : q = a + 14 + cS F a ∧ q ≤ e ∧ 1 ≤ cS F a ∧ cS F a ≤ 1200 ∧ U2 F (a + 6) ≤ 24 ∧ par ≤ U2 F (a + 8) ∧ U2 F (a + 8) ≤ 24 := by
  unfold xCd at h
  cases e1 : uS F e 14 (a + 6) 0 24 13 with
  | error z => rw [e1] at h; cases h
  | ok q1 =>
    rw [e1] at h
    cases e2 : uS F e 14 (a + 8) par 24 13 with
    | error z => rw [e2] at h; cases h
    | ok q2 =>
      rw [e2] at h
      obtain ⟨-, -, -, u1⟩ := uS_ok e1
      obtain ⟨-, -, u2, u3⟩ := uS_ok e2
      simp only at h
      split at h
      · split at h
        · split at h
          · rename_i h1 h2 h3
            cases h
            have := (S4_U4 hF (a + 10)).1 (by omega)
            exact ⟨rfl, h3, by show 1 ≤ U4 F (a + 10); omega, by show U4 F (a + 10) ≤ 1200; omega, u1, u2, u3⟩
          · cases h
        · cases h
      · cases h
theorem aA_b2 (F : Nat → Nat) (e c q : Nat) : (match aA F e 14 c q with | .error z => some z | .ok q' => if q' = e then none else some (14, q')) = xBA F e c q := by
  have h := aA_b F e c q
  cases x : aA F e 14 c q with
  | error z => rw [x] at h; exact h
  | ok z => rw [x] at h; exact h
theorem xKb_x {F : Nat → Nat} (hF : isF F) (a par : Nat) : xKb F (cE F a) a par = xBody F a (par : Int) := by
  unfold xKb xCd xBody uS
  have hs := S4_U4 hF (a + 10)
  have hcs : cS F a = U4 F (a + 10) := rfl
  have hcH : cH F a = a + 14 + cS F a + 2 := rfl
  have hcN : cN F a = U2 F (a + 14 + cS F a) := rfl
  have hsr := S4_rg hF (a + 10)
  have hul := U4_lt hF (a + 10)
  by_cases a1 : cE F a < a + 8
  · rw [if_neg (show ¬ a + 6 + 2 ≤ cE F a by omega), if_pos a1]
  · rw [if_pos (show a + 6 + 2 ≤ cE F a by omega), if_neg a1]
    by_cases a2 : 24 < U2 F (a + 6)
    · rw [if_neg (show ¬ (0 ≤ U2 F (a + 6) ∧ U2 F (a + 6) ≤ 24) by omega), if_pos a2]
    · rw [if_pos (show 0 ≤ U2 F (a + 6) ∧ U2 F (a + 6) ≤ 24 by omega), if_neg a2]
      by_cases a3 : cE F a < a + 10
      · rw [if_neg (show ¬ a + 8 + 2 ≤ cE F a by omega), if_pos a3]
      · rw [if_pos (show a + 8 + 2 ≤ cE F a by omega), if_neg a3]
        by_cases a4 : 24 < U2 F (a + 8) ∨ (U2 F (a + 8) : Int) < (par : Int)
        · rw [if_neg (show ¬ (par ≤ U2 F (a + 8) ∧ U2 F (a + 8) ≤ 24) by omega), if_pos a4]
        · rw [if_pos (show par ≤ U2 F (a + 8) ∧ U2 F (a + 8) ≤ 24 by omega), if_neg a4]
          by_cases a5 : cE F a < a + 14
          · simp only [if_neg (show ¬ a + 14 ≤ cE F a by omega), if_pos a5]
          · simp only [if_pos (show a + 14 ≤ cE F a by omega), if_neg a5]
            by_cases a6 : cS F a < 1 ∨ 1200 < cS F a
            · simp only [if_neg (show ¬ (1 ≤ S4 F (a + 10) ∧ S4 F (a + 10) ≤ 1200) by omega), if_pos a6]
            · simp only [if_pos (show 1 ≤ S4 F (a + 10) ∧ S4 F (a + 10) ≤ 1200 by omega), if_neg a6]
              by_cases a7 : cE F a < a + 14 + cS F a
              · simp only [if_neg (show ¬ a + 14 + cS F a ≤ cE F a by omega), if_pos a7]
              · simp only [if_pos (show a + 14 + cS F a ≤ cE F a by omega), if_neg a7]
                unfold xCt uS
                by_cases a8 : cE F a < cH F a
                · simp only [if_neg (show ¬ a + 14 + cS F a + 2 ≤ cE F a by omega), if_pos a8]
                · simp only [if_pos (show a + 14 + cS F a + 2 ≤ cE F a by omega), if_neg a8]
                  by_cases a9 : 16 < cN F a
                  · simp only [if_neg (show ¬ (0 ≤ U2 F (a + 14 + cS F a) ∧ U2 F (a + 14 + cS F a) ≤ 16) by omega), if_pos a9]
                  · simp only [if_pos (show 0 ≤ U2 F (a + 14 + cS F a) ∧ U2 F (a + 14 + cS F a) ≤ 16 by omega), if_neg a9]
                    by_cases b1 : cE F a < cH F a + 8 * cN F a + 2
                    · rw [if_pos b1]
                      by_cases b2 : a + 14 + cS F a + 2 + 8 * U2 F (a + 14 + cS F a) ≤ cE F a
                      · simp only [if_pos b2]
                        unfold aAs
                        rw [if_neg (show ¬ a + 14 + cS F a + 2 + 8 * U2 F (a + 14 + cS F a) + 2 ≤ cE F a by omega)]
                      · simp only [if_neg b2]
                    · rw [if_neg b1]
                      simp only [if_pos (show a + 14 + cS F a + 2 + 8 * U2 F (a + 14 + cS F a) ≤ cE F a by omega)]
                      unfold aAs
                      rw [if_pos (show a + 14 + cS F a + 2 + 8 * U2 F (a + 14 + cS F a) + 2 ≤ cE F a by omega)]
                      exact aA_b2 F (cE F a) _ _

set_option maxHeartbeats 4000000 in
set_option maxRecDepth 20000 in
theorem c_X4_behindCode (l : Launch) (Z : zT) {H : Heap} {ad : Nat → Nat} {τ : mS} {X : List (Nat × va_E)} (hM : isC Z H ad τ X) {F : Nat → Nat} {n : Nat} (hB : cSrc τ F n) {t en : Nat} (hX : (t, stE ad en 14) ∈ X) (hen0 : en ≤ n) {a par bm : Nat} (hbm : bm < 24) (hpar : τ.2.1 23 bm = zI (par : Int)) (hp4 : par ≤ 400) (hae : a + 6 ≤ n) : zM l Z yX4_behindCode cX4_behindCode 4 (some .int) (rmk 4) [.ref (ad (16 + bm)), .ref t, zN (a + 6)] H (cA ad) 0 0 (fun v H' => (∃ q, xCd F en a par = .ok q ∧ v = some (zN q) ∧ q ≤ en ∧ ∃ τ' : mS, isC Z H' ad τ' X ∧ chg [] [21, 22, 24, 25] τ τ' ∧ oth τ τ' bm ∧ τ'.2.1 21 bm = zI (U2 F (a + 6) : Int) ∧ τ'.2.1 22 bm = zI (U2 F (a + 8) : Int) ∧ τ'.2.1 24 bm = zI ((a + 14 : Nat) : Int) ∧ τ'.2.1 25 bm = zI (cS F a : Int)) ∨ (∃ r w, xCd F en a par = .error (r, w) ∧ v = some (zV (-1)) ∧ gE Z H' ad X τ [8, 9] [21, 22, 24, 25] r w)) := by
  have hn := hB.2.2.2
  have hen : en ≤ 16000 := by omega
  have ho : oth τ τ bm := oth.rf
  have hs4 := S4_U4 hB.1 (a + 10)
  have hcs : cS F a = U4 F (a + 10) := rfl
  refine zM.introI (own := RX4) ⟨by decide, rfl⟩ (Nat.le_of_ble_eq_true rfl) ?_
  intro p e s m args below meth c Q ls hH C hl hret
  have hS : va_S (cA ad) s.heap H [] := by rw [hH]; exact va_S.rf
  have hl : lv_has ls 4 [(0, .ref (ad (16 + bm))), (1, .ref t), (2, zN (a + 6))] := hl
  refine lv_aload_n C.1 C.2.1 dX4_behindCode_0 rfl (lv_at hl 0 rfl) ?_
  refine lv_aload_n C.1 C.2.1 dX4_behindCode_1 rfl (lv_at hl 1 rfl) ?_
  refine z_get C (v := .ref (ad 1)) (hM.ex' hX) rfl bi_wsX80 0 (by decide) zw_9_4 rfl rfl dX4_behindCode_2 ?_
  refine lv_iload_n C.1 C.2.1 dX4_behindCode_5 rfl (lv_at hl 2 rfl) ?_
  refine z_readV C (As := [zN (a + 6)]) (rest := [.ref (ad (16 + bm))]) (c_X1_u2 l Z hM hB ((a + 6 : Nat) : Int) (by omega)) hM.byt rfl ⟨⟨zw_10_5, zw_2_15, zw_10_6⟩, zd_X1_u2⟩ zw_10_3 zw_10_4 ⟨Nat.le_of_ble_eq_true rfl, Nat.le_of_ble_eq_true rfl⟩ ⟨rfl, rfl⟩ rfl hl.1 rfl (Nat.le_of_ble_eq_true rfl) dX4_behindCode_6 ⟨Nat.zero_le _, Nat.zero_le _⟩ hS (fun locs hS => ?_)
  refine z_put C (v := zN (B2 F n ((a + 6 : Nat) : Int))) tyX0 (hM.bod bm (by omega)) rfl bi_wsX00 tyX0_ok nmX0 1 (by decide) zw_19_19 rfl rfl rfl rfl (Nat.le_of_ble_eq_true rfl) hS (cA.k _ (by omega)) dX4_behindCode_9 (fun H locs hu hn hS => ?_)
  have hM := hM.sb (m := bm) (by omega) 1 (by decide) hu hn
  have hB : cSrc (sb9 τ 1 bm (zI ((B2 F n ((a + 6 : Nat) : Int) : Nat) : Int))) F n := hB.sf (by decide)
  have ho : oth τ (sb9 τ 1 bm (zI ((B2 F n ((a + 6 : Nat) : Int) : Nat) : Int))) bm := ho.sb _ _
  refine lv_aload_n C.1 C.2.1 dX4_behindCode_12 rfl (lv_at hl 1 rfl) ?_
  refine lv_iload_n C.1 C.2.1 dX4_behindCode_13 rfl (lv_at hl 2 rfl) ?_
  refine lv_iconst (v := zI 0) C.1 C.2.1 dX4_behindCode_14 (by decide) ?_
  refine lv_bipush (v := zI 24) C.1 C.2.1 dX4_behindCode_15 (by decide) ?_
  refine lv_bipush (v := zI 13) C.1 C.2.1 dX4_behindCode_17 (by decide) ?_
  refine z_callV C (As := [zN (a + 6), zN 0, zN 24, zN 13]) (rest := []) (c_X8_behindU2 l Z hM hB hX hen0 (k := a + 6) (lo := 0) (hi := 24) (rl := 13) (by omega) (by omega) (by omega) (by omega)) (hM.ex' hX) rfl ⟨⟨zw_9_20, zw_8_3, zw_9_17⟩, zd_X8_behindU2⟩ zw_9_18 zw_9_19 ⟨Nat.le_of_ble_eq_true rfl, Nat.le_of_ble_eq_true rfl⟩ ⟨rfl, rfl⟩ rfl hl.1 rfl (Nat.le_of_ble_eq_true rfl) dX4_behindCode_19 ⟨Nat.zero_le _, Nat.zero_le _⟩ hS (fun _ h => h) (fun v H locs hp hS _ _ => ?_)
  rcases hp with ⟨q19, e19, rfl, hM, hb19⟩ | ⟨r19, w19, e19, rfl, hM⟩
  · obtain ⟨hu19, hv19, hw19⟩ := uS_ok e19
    subst hu19
    refine lv_istore_n (lv' := [(3, zN ((a + 6) + 2)), (0, .ref (ad (16 + bm))), (1, .ref t), (2, zN (a + 6))]) C.1 C.2.1 dX4_behindCode_22 rfl hl (by decide) rfl (fun ls hl => ?_)
    rw [show ((a + 6) + 2 : Nat) = a + 8 from rfl] at hl
    refine lv_iload_n C.1 C.2.1 dX4_behindCode_23 rfl (lv_at hl 0 rfl) ?_
    refine lv_iconst (v := zI (-1)) C.1 C.2.1 dX4_behindCode_24 (by decide) ?_
    refine y_icmp_ne (tgt := 30) C (a := ((a + 8 : Nat) : Int)) (b := -1) dX4_behindCode_25 (by decide) (by omega) (fun h25 => ?_) (fun h25 => ?_)
    · refine lv_aload_n C.1 C.2.1 dX4_behindCode_30 rfl (lv_at hl 1 rfl) ?_
      refine lv_aload_n C.1 C.2.1 dX4_behindCode_31 rfl (lv_at hl 2 rfl) ?_
      refine z_get C (v := .ref (ad 1)) (hM.ex' hX) rfl bi_wsX80 0 (by decide) zw_9_4 rfl rfl dX4_behindCode_32 ?_
      refine lv_iload_n C.1 C.2.1 dX4_behindCode_35 rfl (lv_at hl 0 rfl) ?_
      refine z_readV C (As := [zN (a + 8)]) (rest := [.ref (ad (16 + bm))]) (c_X1_u2 l Z hM hB ((a + 8 : Nat) : Int) (by omega)) hM.byt rfl ⟨⟨zw_10_5, zw_2_15, zw_10_6⟩, zd_X1_u2⟩ zw_10_3 zw_10_4 ⟨Nat.le_of_ble_eq_true rfl, Nat.le_of_ble_eq_true rfl⟩ ⟨rfl, rfl⟩ rfl hl.1 rfl (Nat.le_of_ble_eq_true rfl) dX4_behindCode_36 ⟨Nat.zero_le _, Nat.zero_le _⟩ hS (fun locs hS => ?_)
      refine z_put C (v := zN (B2 F n ((a + 8 : Nat) : Int))) tyX0 (hM.bod bm (by omega)) rfl bi_wsX00 tyX0_ok nmX0 2 (by decide) zw_19_20 rfl rfl rfl rfl (Nat.le_of_ble_eq_true rfl) hS (cA.k _ (by omega)) dX4_behindCode_39 (fun H locs hu hn hS => ?_)
      have hM := hM.sb (m := bm) (by omega) 2 (by decide) hu hn
      have hB : cSrc (sb9 (sb9 τ 1 bm (zI ((B2 F n ((a + 6 : Nat) : Int) : Nat) : Int))) 2 bm (zI ((B2 F n ((a + 8 : Nat) : Int) : Nat) : Int))) F n := hB.sf (by decide)
      have ho : oth τ (sb9 (sb9 τ 1 bm (zI ((B2 F n ((a + 6 : Nat) : Int) : Nat) : Int))) 2 bm (zI ((B2 F n ((a + 8 : Nat) : Int) : Nat) : Int))) bm := ho.sb _ _
      refine lv_aload_n C.1 C.2.1 dX4_behindCode_42 rfl (lv_at hl 2 rfl) ?_
      refine lv_iload_n C.1 C.2.1 dX4_behindCode_43 rfl (lv_at hl 0 rfl) ?_
      refine lv_aload_n C.1 C.2.1 dX4_behindCode_44 rfl (lv_at hl 1 rfl) ?_
      refine z_get C (v := .int ((sb9 (sb9 τ 1 bm (zI ((B2 F n ((a + 6 : Nat) : Int) : Nat) : Int))) 2 bm (zI ((B2 F n ((a + 8 : Nat) : Int) : Nat) : Int))).2.1 23 bm)) (hM.bod bm (by omega)) rfl bi_wsX00 3 (by decide) zw_19_8 rfl rfl dX4_behindCode_45 ?_
      refine z_re (y := zI ((par : Nat) : Int)) (by repeat (first | exact hpar | rw [sb9_k _ _ _ (by decide)])) ?_
      refine lv_bipush (v := zI 24) C.1 C.2.1 dX4_behindCode_48 (by decide) ?_
      refine lv_bipush (v := zI 13) C.1 C.2.1 dX4_behindCode_50 (by decide) ?_
      refine z_callV C (As := [zN (a + 8), zN par, zN 24, zN 13]) (rest := []) (c_X8_behindU2 l Z hM hB hX hen0 (k := a + 8) (lo := par) (hi := 24) (rl := 13) (by omega) (by omega) (by omega) (by omega)) (hM.ex' hX) rfl ⟨⟨zw_9_20, zw_8_3, zw_9_17⟩, zd_X8_behindU2⟩ zw_9_18 zw_9_19 ⟨Nat.le_of_ble_eq_true rfl, Nat.le_of_ble_eq_true rfl⟩ ⟨rfl, rfl⟩ rfl hl.1 rfl (Nat.le_of_ble_eq_true rfl) dX4_behindCode_52 ⟨Nat.zero_le _, Nat.zero_le _⟩ hS (fun _ h => h) (fun v H locs hp hS _ _ => ?_)
      rcases hp with ⟨q52, e52, rfl, hM, hb52⟩ | ⟨r52, w52, e52, rfl, hM⟩
      · obtain ⟨hu52, hv52, hw52⟩ := uS_ok e52
        subst hu52
        refine lv_istore_n (lv' := [(3, zN ((a + 8) + 2)), (0, .ref (ad (16 + bm))), (1, .ref t), (2, zN (a + 6))]) C.1 C.2.1 dX4_behindCode_55 rfl hl (by decide) rfl (fun ls hl => ?_)
        rw [show ((a + 8) + 2 : Nat) = a + 10 from rfl] at hl
        refine lv_iload_n C.1 C.2.1 dX4_behindCode_56 rfl (lv_at hl 0 rfl) ?_
        refine lv_iconst (v := zI (-1)) C.1 C.2.1 dX4_behindCode_57 (by decide) ?_
        refine y_icmp_eq (tgt := 71) C (a := ((a + 10 : Nat) : Int)) (b := -1) dX4_behindCode_58 (by decide) (by omega) (fun h58 => ?_) (fun h58 => ?_)
        · exact False.elim (by first | omega | exact h58 rfl)
        · refine lv_aload_n C.1 C.2.1 dX4_behindCode_61 rfl (lv_at hl 2 rfl) ?_
          refine lv_iload_n C.1 C.2.1 dX4_behindCode_62 rfl (lv_at hl 0 rfl) ?_
          refine lv_iconst (v := zI 4) C.1 C.2.1 dX4_behindCode_63 (by decide) ?_
          refine z_callV C (As := [zN (a + 10), zN 4]) (rest := []) (c_X8_behind l Z hM hX (a + 10) (by omega) 4 (by omega) hen) (hM.ex' hX) rfl ⟨⟨zw_10_0, zw_8_3, zw_10_22⟩, zd_X8_behind⟩ zw_9_22 zw_9_23 ⟨Nat.le_of_ble_eq_true rfl, Nat.le_of_ble_eq_true rfl⟩ ⟨rfl, rfl⟩ rfl hl.1 rfl (Nat.le_of_ble_eq_true rfl) dX4_behindCode_64 ⟨Nat.zero_le _, Nat.zero_le _⟩ hS (fun _ h => h) (fun v H locs hp hS _ _ => ?_)
          obtain ⟨hp1, hp2⟩ := hp
          rcases Classical.em (0 ≤ (4 : Int) ∧ ((a + 10 : Nat) : Int) + 4 ≤ (en : Int)) with hc64 | hc64
          · obtain ⟨rfl, hM⟩ := hp1 hc64
            refine lv_iconst (v := zI (-1)) C.1 C.2.1 dX4_behindCode_67 (by decide) ?_
            refine y_icmp_ne (tgt := 73) C (a := (((a + 10) + 4 : Nat) : Int)) (b := -1) dX4_behindCode_68 (by decide) (by omega) (fun h68 => ?_) (fun h68 => ?_)
            · refine lv_aload_n C.1 C.2.1 dX4_behindCode_73 rfl (lv_at hl 1 rfl) ?_
              refine lv_iload_n C.1 C.2.1 dX4_behindCode_74 rfl (lv_at hl 0 rfl) ?_
              refine lv_iconst (v := zI 4) C.1 C.2.1 dX4_behindCode_75 (by decide) ?_
              refine y_iaddN C (a := a + 10) (b := 4) dX4_behindCode_76 ?_
              refine z_re (y := zI ((a + 14 : Nat) : Int)) (zI_c (by omega)) ?_
              refine z_put C (v := zN (a + 14)) tyX0 (hM.bod bm (by omega)) rfl bi_wsX00 tyX0_ok nmX0 4 (by decide) zw_19_21 rfl rfl rfl rfl (Nat.le_of_ble_eq_true rfl) hS (cA.k _ (by omega)) dX4_behindCode_77 (fun H locs hu hn hS => ?_)
              have hM := hM.sb (m := bm) (by omega) 4 (by decide) hu hn
              have hB : cSrc (sb9 (sb9 (sb9 τ 1 bm (zI ((B2 F n ((a + 6 : Nat) : Int) : Nat) : Int))) 2 bm (zI ((B2 F n ((a + 8 : Nat) : Int) : Nat) : Int))) 4 bm (zI ((a + 14 : Nat) : Int))) F n := hB.sf (by decide)
              have ho : oth τ (sb9 (sb9 (sb9 τ 1 bm (zI ((B2 F n ((a + 6 : Nat) : Int) : Nat) : Int))) 2 bm (zI ((B2 F n ((a + 8 : Nat) : Int) : Nat) : Int))) 4 bm (zI ((a + 14 : Nat) : Int))) bm := ho.sb _ _
              refine lv_aload_n C.1 C.2.1 dX4_behindCode_80 rfl (lv_at hl 1 rfl) ?_
              refine lv_aload_n C.1 C.2.1 dX4_behindCode_81 rfl (lv_at hl 2 rfl) ?_
              refine z_get C (v := .ref (ad 1)) (hM.ex' hX) rfl bi_wsX80 0 (by decide) zw_9_4 rfl rfl dX4_behindCode_82 ?_
              refine lv_iload_n C.1 C.2.1 dX4_behindCode_85 rfl (lv_at hl 0 rfl) ?_
              refine z_readV C (As := [zN (a + 10)]) (rest := [.ref (ad (16 + bm))]) (c_s4 l Z hM hB (a + 10) rfl (by omega)) hM.byt rfl ⟨⟨zw_13_1, zw_2_15, zw_19_12⟩, zd_X1_s4⟩ zw_12_23 zw_13_0 ⟨Nat.le_of_ble_eq_true rfl, Nat.le_of_ble_eq_true rfl⟩ ⟨rfl, rfl⟩ rfl hl.1 rfl (Nat.le_of_ble_eq_true rfl) dX4_behindCode_86 ⟨Nat.zero_le _, Nat.zero_le _⟩ hS (fun locs hS => ?_)
              have := S4_rg hB.1 (a + 10)
              refine z_put C (v := zV (S4 F (a + 10))) tyX0 (hM.bod bm (by omega)) rfl bi_wsX00 tyX0_ok nmX0 5 (by decide) zw_19_22 rfl rfl rfl rfl (Nat.le_of_ble_eq_true rfl) hS (cA.k _ (by omega)) dX4_behindCode_89 (fun H locs hu hn hS => ?_)
              have hM := hM.sb (m := bm) (by omega) 5 (by decide) hu hn
              have hB : cSrc (sb9 (sb9 (sb9 (sb9 τ 1 bm (zI ((B2 F n ((a + 6 : Nat) : Int) : Nat) : Int))) 2 bm (zI ((B2 F n ((a + 8 : Nat) : Int) : Nat) : Int))) 4 bm (zI ((a + 14 : Nat) : Int))) 5 bm (zI (S4 F (a + 10)))) F n := hB.sf (by decide)
              have ho : oth τ (sb9 (sb9 (sb9 (sb9 τ 1 bm (zI ((B2 F n ((a + 6 : Nat) : Int) : Nat) : Int))) 2 bm (zI ((B2 F n ((a + 8 : Nat) : Int) : Nat) : Int))) 4 bm (zI ((a + 14 : Nat) : Int))) 5 bm (zI (S4 F (a + 10)))) bm := ho.sb _ _
              refine lv_aload_n C.1 C.2.1 dX4_behindCode_92 rfl (lv_at hl 1 rfl) ?_
              refine z_get C (v := .int ((sb9 (sb9 (sb9 (sb9 τ 1 bm (zI ((B2 F n ((a + 6 : Nat) : Int) : Nat) : Int))) 2 bm (zI ((B2 F n ((a + 8 : Nat) : Int) : Nat) : Int))) 4 bm (zI ((a + 14 : Nat) : Int))) 5 bm (zI (S4 F (a + 10)))).2.1 25 bm)) (hM.bod bm (by omega)) rfl bi_wsX00 5 (by decide) zw_19_22 rfl rfl dX4_behindCode_93 ?_
              refine z_re (y := zI (S4 F (a + 10))) (by repeat (first | exact sb9_at _ _ _ _ | rw [sb9_k _ _ _ (by decide)])) ?_
              refine lv_iconst (v := zI 1) C.1 C.2.1 dX4_behindCode_96 (by decide) ?_
              refine y_icmp_lt (tgt := 110) C (a := S4 F (a + 10)) (b := 1) dX4_behindCode_97 (by decide) (by omega) (fun h97 => ?_) (fun h97 => ?_)
              · refine lv_aload_n C.1 C.2.1 dX4_behindCode_110 rfl (lv_at hl 2 rfl) ?_
                refine z_get C (v := .ref (ad 15)) (hM.ex' hX) rfl bi_wsX80 1 (by decide) zw_9_3 rfl rfl dX4_behindCode_111 ?_
                refine lv_bipush (v := zI 13) C.1 C.2.1 dX4_behindCode_114 (by decide) ?_
                refine lv_iload_n C.1 C.2.1 dX4_behindCode_116 rfl (lv_at hl 0 rfl) ?_
                refine z_callV C (As := [zN 13, zN (a + 10)]) (rest := []) (c_X10_broken l Z hM (zI 13) (zI ((a + 10 : Nat) : Int))) hM.ver rfl ⟨⟨zw_9_8, zw_1_14, zw_9_5⟩, zd_X10_broken⟩ zw_9_6 zw_9_7 ⟨Nat.le_of_ble_eq_true rfl, Nat.le_of_ble_eq_true rfl⟩ ⟨rfl, rfl⟩ rfl hl.1 rfl (Nat.le_of_ble_eq_true rfl) dX4_behindCode_117 ⟨Nat.zero_le _, Nat.zero_le _⟩ hS (fun _ h => h) (fun v H locs hp hS _ _ => ?_)
                obtain ⟨rfl, hM⟩ := hp
                exact hret _ _ _ _ (zI (-1)) hS (Or.inr ⟨_, _, (by unfold xCd; simp only [e19, e52]; rw [if_pos (by omega), if_neg (by omega)]), rfl, _, hM, (chg_sx (by decide) (chg_sx (by decide) (chg_sf (by decide) (chg_sf (by decide) (chg_sf (by decide) (chg_sf (by decide) chg.rf)))))), rfl, rfl⟩) rfl dX4_behindCode_120
              · refine lv_aload_n C.1 C.2.1 dX4_behindCode_100 rfl (lv_at hl 1 rfl) ?_
                refine z_get C (v := .int ((sb9 (sb9 (sb9 (sb9 τ 1 bm (zI ((B2 F n ((a + 6 : Nat) : Int) : Nat) : Int))) 2 bm (zI ((B2 F n ((a + 8 : Nat) : Int) : Nat) : Int))) 4 bm (zI ((a + 14 : Nat) : Int))) 5 bm (zI (S4 F (a + 10)))).2.1 25 bm)) (hM.bod bm (by omega)) rfl bi_wsX00 5 (by decide) zw_19_22 rfl rfl dX4_behindCode_101 ?_
                refine z_re (y := zI (S4 F (a + 10))) (by repeat (first | exact sb9_at _ _ _ _ | rw [sb9_k _ _ _ (by decide)])) ?_
                refine lv_sipush (v := zI 1200) C.1 C.2.1 dX4_behindCode_104 (by decide) ?_
                refine y_icmp_le (tgt := 121) C (a := S4 F (a + 10)) (b := 1200) dX4_behindCode_107 (by decide) (by omega) (fun h107 => ?_) (fun h107 => ?_)
                · refine lv_aload_n C.1 C.2.1 dX4_behindCode_121 rfl (lv_at hl 2 rfl) ?_
                  refine lv_aload_n C.1 C.2.1 dX4_behindCode_122 rfl (lv_at hl 1 rfl) ?_
                  refine z_get C (v := .int ((sb9 (sb9 (sb9 (sb9 τ 1 bm (zI ((B2 F n ((a + 6 : Nat) : Int) : Nat) : Int))) 2 bm (zI ((B2 F n ((a + 8 : Nat) : Int) : Nat) : Int))) 4 bm (zI ((a + 14 : Nat) : Int))) 5 bm (zI (S4 F (a + 10)))).2.1 24 bm)) (hM.bod bm (by omega)) rfl bi_wsX00 4 (by decide) zw_19_21 rfl rfl dX4_behindCode_123 ?_
                  refine z_re (y := zI ((a + 14 : Nat) : Int)) (by repeat (first | exact sb9_at _ _ _ _ | rw [sb9_k _ _ _ (by decide)])) ?_
                  refine lv_aload_n C.1 C.2.1 dX4_behindCode_126 rfl (lv_at hl 1 rfl) ?_
                  refine z_get C (v := .int ((sb9 (sb9 (sb9 (sb9 τ 1 bm (zI ((B2 F n ((a + 6 : Nat) : Int) : Nat) : Int))) 2 bm (zI ((B2 F n ((a + 8 : Nat) : Int) : Nat) : Int))) 4 bm (zI ((a + 14 : Nat) : Int))) 5 bm (zI (S4 F (a + 10)))).2.1 25 bm)) (hM.bod bm (by omega)) rfl bi_wsX00 5 (by decide) zw_19_22 rfl rfl dX4_behindCode_127 ?_
                  refine z_re (y := zI (S4 F (a + 10))) (by repeat (first | exact sb9_at _ _ _ _ | rw [sb9_k _ _ _ (by decide)])) ?_
                  refine z_re (y := zI ((cS F a : Nat) : Int)) (zI_c (by omega)) ?_
                  refine z_callV C (As := [zN (a + 14), zN (cS F a)]) (rest := []) (c_X8_behind l Z hM hX (a + 14) (by omega) ((cS F a : Nat) : Int) (by omega) hen) (hM.ex' hX) rfl ⟨⟨zw_10_0, zw_8_3, zw_10_22⟩, zd_X8_behind⟩ zw_9_22 zw_9_23 ⟨Nat.le_of_ble_eq_true rfl, Nat.le_of_ble_eq_true rfl⟩ ⟨rfl, rfl⟩ rfl hl.1 rfl (Nat.le_of_ble_eq_true rfl) dX4_behindCode_130 ⟨Nat.zero_le _, Nat.zero_le _⟩ hS (fun _ h => h) (fun v H locs hp hS _ _ => ?_)
                  obtain ⟨hp1, hp2⟩ := hp
                  rcases Classical.em (0 ≤ (((cS F a : Nat) : Int) : Int) ∧ ((a + 14 : Nat) : Int) + ((cS F a : Nat) : Int) ≤ (en : Int)) with hc130 | hc130
                  · obtain ⟨rfl, hM⟩ := hp1 hc130
                    exact hret _ _ _ _ (zI (((a + 14) + (cS F a) : Nat) : Int)) hS (Or.inl ⟨_, (by unfold xCd; simp only [e19, e52]; rw [if_pos (by omega), if_pos (by omega), if_pos (by omega)]), rfl, (by omega), _, hM, (chg_sf (by decide) (chg_sf (by decide) (chg_sf (by decide) (chg_sf (by decide) chg.rf)))), ho, (by (repeat rw [sb9_k _ _ _ (by decide)]); exact (sb9_at _ _ _ _).trans (zI_c (congrArg Nat.cast (B2_in (by omega))))), (by (repeat rw [sb9_k _ _ _ (by decide)]); exact (sb9_at _ _ _ _).trans (zI_c (congrArg Nat.cast (B2_in (by omega))))), (by (repeat rw [sb9_k _ _ _ (by decide)]); exact (sb9_at _ _ _ _).trans (zI_c (by omega))), (by (repeat rw [sb9_k _ _ _ (by decide)]); exact (sb9_at _ _ _ _).trans (zI_c (by omega)))⟩) rfl dX4_behindCode_133
                  · obtain ⟨rfl, hM⟩ := hp2 hc130
                    exact hret _ _ _ _ (zI (-1)) hS (Or.inr ⟨_, _, (by unfold xCd; simp only [e19, e52]; rw [if_pos (by omega), if_pos (by omega), if_neg (by omega)]), rfl, _, hM, (chg_sx (by decide) (chg_sx (by decide) (chg_sf (by decide) (chg_sf (by decide) (chg_sf (by decide) (chg_sf (by decide) chg.rf)))))), rfl, rfl⟩) rfl dX4_behindCode_133
                · refine lv_aload_n C.1 C.2.1 dX4_behindCode_110 rfl (lv_at hl 2 rfl) ?_
                  refine z_get C (v := .ref (ad 15)) (hM.ex' hX) rfl bi_wsX80 1 (by decide) zw_9_3 rfl rfl dX4_behindCode_111 ?_
                  refine lv_bipush (v := zI 13) C.1 C.2.1 dX4_behindCode_114 (by decide) ?_
                  refine lv_iload_n C.1 C.2.1 dX4_behindCode_116 rfl (lv_at hl 0 rfl) ?_
                  refine z_callV C (As := [zN 13, zN (a + 10)]) (rest := []) (c_X10_broken l Z hM (zI 13) (zI ((a + 10 : Nat) : Int))) hM.ver rfl ⟨⟨zw_9_8, zw_1_14, zw_9_5⟩, zd_X10_broken⟩ zw_9_6 zw_9_7 ⟨Nat.le_of_ble_eq_true rfl, Nat.le_of_ble_eq_true rfl⟩ ⟨rfl, rfl⟩ rfl hl.1 rfl (Nat.le_of_ble_eq_true rfl) dX4_behindCode_117 ⟨Nat.zero_le _, Nat.zero_le _⟩ hS (fun _ h => h) (fun v H locs hp hS _ _ => ?_)
                  obtain ⟨rfl, hM⟩ := hp
                  exact hret _ _ _ _ (zI (-1)) hS (Or.inr ⟨_, _, (by unfold xCd; simp only [e19, e52]; rw [if_pos (by omega), if_neg (by omega)]), rfl, _, hM, (chg_sx (by decide) (chg_sx (by decide) (chg_sf (by decide) (chg_sf (by decide) (chg_sf (by decide) (chg_sf (by decide) chg.rf)))))), rfl, rfl⟩) rfl dX4_behindCode_120
            · exact False.elim (by first | omega | exact h68 rfl)
          · obtain ⟨rfl, hM⟩ := hp2 hc64
            refine lv_iconst (v := zI (-1)) C.1 C.2.1 dX4_behindCode_67 (by decide) ?_
            refine y_icmp_ne (tgt := 73) C (a := -1) (b := -1) dX4_behindCode_68 (by decide) (by omega) (fun h68 => ?_) (fun h68 => ?_)
            · exact False.elim (by first | omega | exact h68 rfl)
            · refine lv_iconst (v := zI (-1)) C.1 C.2.1 dX4_behindCode_71 (by decide) ?_
              exact hret _ _ _ _ (zI (-1)) hS (Or.inr ⟨_, _, (by unfold xCd; simp only [e19, e52]; rw [if_neg (by omega)]), rfl, _, hM, (chg_sx (by decide) (chg_sx (by decide) (chg_sf (by decide) (chg_sf (by decide) chg.rf)))), rfl, rfl⟩) rfl dX4_behindCode_72
      · skip
        refine lv_istore_n (lv' := [(3, zV (-1)), (0, .ref (ad (16 + bm))), (1, .ref t), (2, zN (a + 6))]) C.1 C.2.1 dX4_behindCode_55 rfl hl (by decide) rfl (fun ls hl => ?_)
        refine lv_iload_n C.1 C.2.1 dX4_behindCode_56 rfl (lv_at hl 0 rfl) ?_
        refine lv_iconst (v := zI (-1)) C.1 C.2.1 dX4_behindCode_57 (by decide) ?_
        refine y_icmp_eq (tgt := 71) C (a := -1) (b := -1) dX4_behindCode_58 (by decide) (by omega) (fun h58 => ?_) (fun h58 => ?_)
        · refine lv_iconst (v := zI (-1)) C.1 C.2.1 dX4_behindCode_71 (by decide) ?_
          exact hret _ _ _ _ (zI (-1)) hS (Or.inr ⟨_, _, (by unfold xCd; simp only [e19, e52]), rfl, _, hM, (chg_sx (by decide) (chg_sx (by decide) (chg_sf (by decide) (chg_sf (by decide) chg.rf)))), rfl, rfl⟩) rfl dX4_behindCode_72
        · exact False.elim (by first | omega | exact h58 rfl)
    · exact False.elim (by first | omega | exact h25 rfl)
  · skip
    refine lv_istore_n (lv' := [(3, zV (-1)), (0, .ref (ad (16 + bm))), (1, .ref t), (2, zN (a + 6))]) C.1 C.2.1 dX4_behindCode_22 rfl hl (by decide) rfl (fun ls hl => ?_)
    refine lv_iload_n C.1 C.2.1 dX4_behindCode_23 rfl (lv_at hl 0 rfl) ?_
    refine lv_iconst (v := zI (-1)) C.1 C.2.1 dX4_behindCode_24 (by decide) ?_
    refine y_icmp_ne (tgt := 30) C (a := -1) (b := -1) dX4_behindCode_25 (by decide) (by omega) (fun h25 => ?_) (fun h25 => ?_)
    · exact False.elim (by first | omega | exact h25 rfl)
    · refine lv_iconst (v := zI (-1)) C.1 C.2.1 dX4_behindCode_28 (by decide) ?_
      exact hret _ _ _ _ (zI (-1)) hS (Or.inr ⟨_, _, (by unfold xCd; simp only [e19]), rfl, _, hM, (chg_sx (by decide) (chg_sx (by decide) (chg_sf (by decide) chg.rf))), rfl, rfl⟩) rfl dX4_behindCode_29
