/-! the component: a stretch, the head, an entry -/
theorem zmin {a b : Nat} (ha : a < 2147483648) (hb : b < 2147483648) : (if zI (b : Int) < zI (a : Int) then zI (b : Int) else zI (a : Int)) = zI ((min a b : Nat) : Int) := by
  by_cases h : b < a
  · rw [if_pos ((zI_lt (by omega)).mpr (by omega)), Nat.min_eq_right (by omega)]
  · rw [if_neg (fun z => h (by have := (zI_lt (by omega)).mp z; omega)), Nat.min_eq_left (by omega)]
theorem S4_U4 {F : Nat → Nat} (hF : isF F) (k : Nat) : (0 ≤ S4 F k → S4 F k = (U4 F k : Int)) ∧ (S4 F k < 0 → 2147483648 ≤ U4 F k) := by
  have := U4_lt hF k
  unfold S4
  split <;> omega
/-- what a walk answers: the place behind, or what is broken -/
def rE (Z : zT) (H : Heap) (ad : Nat → Nat) (τ : mS) (X : List (Nat × va_E)) (b : Nat) (S : Except E2 Nat) (v : Option Value) : Prop :=
  (∃ q, S = .ok q ∧ v = some (zN q) ∧ isC Z H ad τ X ∧ q ≤ b) ∨ (∃ r w, S = .error (r, w) ∧ v = some (zV (-1)) ∧ isC Z H ad (sx (sx τ 8 (zI ((r : Nat) : Int))) 9 (zI ((w : Nat) : Int))) X)
def uS (F : Nat → Nat) (en ru p lo hi rl : Nat) : Except E2 Nat := if p + 2 ≤ en then (if lo ≤ U2 F p ∧ U2 F p ≤ hi then .ok (p + 2) else .error (rl, p)) else .error (ru, en)
def aA (F : Nat → Nat) (en ru : Nat) : Nat → Nat → Except E2 Nat
  | 0, q => .ok q
  | c + 1, q => if q + 6 ≤ en then (if q + 6 + U4 F (q + 2) ≤ en then aA F en ru c (q + 6 + U4 F (q + 2)) else .error (ru, en)) else .error (ru, en)
def aAs (F : Nat → Nat) (en ru q : Nat) : Except E2 Nat := if q + 2 ≤ en then aA F en ru (U2 F q) (q + 2) else .error (ru, en)
theorem aA_x (F : Nat → Nat) (n : Nat) : ∀ c q, aA F n 2 c q = xAtt F n c q := by
  intro c
  induction c with
  | zero => intro q; rfl
  | succ c ih => intro q; unfold aA xAtt; rw [ih]
theorem aAs_x (F : Nat → Nat) (n q : Nat) : aAs F n 2 q = xAtts F n q := by unfold aAs xAtts; rw [aA_x]
theorem aA_b (F : Nat → Nat) (e : Nat) : ∀ c q, (match aA F e 14 c q with | .ok q' => if q' = e then none else some (14, q') | .error z => some z) = xBA F e c q := by
  intro c
  induction c with
  | zero => intro q; rfl
  | succ c ih =>
    intro q
    unfold aA xBA
    by_cases h : q + 6 ≤ e
    · rw [if_pos h, if_neg (show ¬ e < q + 6 by omega)]
      by_cases h2 : q + 6 + U4 F (q + 2) ≤ e
      · rw [if_pos h2, if_neg (show ¬ e < q + 6 + U4 F (q + 2) by omega)]; exact ih _
      · rw [if_neg h2, if_pos (show e < q + 6 + U4 F (q + 2) by omega)]
    · rw [if_neg h, if_pos (show e < q + 6 by omega)]

set_option maxHeartbeats 4000000 in
set_option maxRecDepth 20000 in
theorem c_X8_behind (l : Launch) (Z : zT) {H : Heap} {ad : Nat → Nat} {τ : mS} {X : List (Nat × va_E)} (hM : isC Z H ad τ X) {t en ru : Nat} (hX : (t, stE ad en ru) ∈ X) (k : Nat) (hk : k ≤ 16000) (u : Int) (hu : -2147483648 ≤ u ∧ u < 2147483648) (hen : en ≤ 16000) : zM l Z yX8_behind cX8_behind 3 (some .int) (rmk 2) [.ref t, zN k, zV u] H (cA ad) 0 0 (fun v H' => ((0 ≤ u ∧ ((k : Nat) : Int) + u ≤ (en : Int)) → v = some (zV (((k : Nat) : Int) + u)) ∧ isC Z H' ad τ X) ∧ (¬ (0 ≤ u ∧ ((k : Nat) : Int) + u ≤ (en : Int)) → v = some (zV (-1)) ∧ isC Z H' ad (sx (sx τ 8 (zI ((ru : Nat) : Int))) 9 (zI ((en : Nat) : Int))) X)) := by
  refine zM.introI (own := RX8) ⟨by decide, rfl⟩ (Nat.le_of_ble_eq_true rfl) ?_
  intro p e s m args below meth c Q ls hH C hl hret
  have hS : va_S (cA ad) s.heap H [] := by rw [hH]; exact va_S.rf
  have hl : lv_has ls 3 [(0, .ref t), (1, zN k), (2, zV u)] := hl
  refine lv_iload_n C.1 C.2.1 dX8_behind_0 rfl (lv_at hl 2 rfl) ?_
  refine y_if_lt (tgt := 14) C (a := u) dX8_behind_1 (by decide) (by omega) (fun h1 => ?_) (fun h1 => ?_)
  · refine lv_aload_n C.1 C.2.1 dX8_behind_14 rfl (lv_at hl 0 rfl) ?_
    refine z_get C (v := .ref (ad 15)) (hM.ex' hX) rfl bi_wsX80 1 (by decide) zw_8_19 rfl rfl dX8_behind_15 ?_
    refine lv_aload_n C.1 C.2.1 dX8_behind_18 rfl (lv_at hl 0 rfl) ?_
    refine z_get C (v := zN ru) (hM.ex' hX) rfl bi_wsX80 3 (by decide) zw_8_21 rfl rfl dX8_behind_19 ?_
    refine lv_aload_n C.1 C.2.1 dX8_behind_22 rfl (lv_at hl 0 rfl) ?_
    refine z_get C (v := zN en) (hM.ex' hX) rfl bi_wsX80 2 (by decide) zw_8_20 rfl rfl dX8_behind_23 ?_
    refine z_callV C (As := [zN ru, zN en]) (rest := []) (c_X10_broken l Z hM (zI ((ru : Nat) : Int)) (zI ((en : Nat) : Int))) hM.ver rfl ⟨⟨zw_9_8, zw_1_14, zw_10_1⟩, zd_X10_broken⟩ zw_9_6 zw_9_7 ⟨Nat.le_of_ble_eq_true rfl, Nat.le_of_ble_eq_true rfl⟩ ⟨rfl, rfl⟩ rfl hl.1 rfl (Nat.le_of_ble_eq_true rfl) dX8_behind_26 ⟨Nat.zero_le _, Nat.zero_le _⟩ hS (fun _ h => h) (fun v H locs hp hS _ _ => ?_)
    obtain ⟨rfl, hM⟩ := hp
    exact hret _ _ _ _ (zI (-1)) hS ⟨fun z => absurd z (by omega), fun _ => ⟨rfl, hM⟩⟩ rfl dX8_behind_29
  · refine lv_iload_n C.1 C.2.1 dX8_behind_4 rfl (lv_at hl 2 rfl) ?_
    refine lv_aload_n C.1 C.2.1 dX8_behind_5 rfl (lv_at hl 0 rfl) ?_
    refine z_get C (v := zN en) (hM.ex' hX) rfl bi_wsX80 2 (by decide) zw_8_20 rfl rfl dX8_behind_6 ?_
    refine lv_iload_n C.1 C.2.1 dX8_behind_9 rfl (lv_at hl 1 rfl) ?_
    refine y_isub C (a := ((en : Nat) : Int)) (b := ((k : Nat) : Int)) dX8_behind_10 ?_
    refine y_icmp_le (tgt := 30) C (a := u) (b := ((en : Nat) : Int) - ((k : Nat) : Int)) dX8_behind_11 (by decide) (by omega) (fun h11 => ?_) (fun h11 => ?_)
    · refine lv_iload_n C.1 C.2.1 dX8_behind_30 rfl (lv_at hl 1 rfl) ?_
      refine lv_iload_n C.1 C.2.1 dX8_behind_31 rfl (lv_at hl 2 rfl) ?_
      refine y_iadd C (a := ((k : Nat) : Int)) (b := u) dX8_behind_32 ?_
      exact hret _ _ _ _ (zI (((k : Nat) : Int) + u)) hS ⟨fun _ => ⟨rfl, hM⟩, fun z => absurd (And.intro (by omega) (by omega)) z⟩ rfl dX8_behind_33
    · refine lv_aload_n C.1 C.2.1 dX8_behind_14 rfl (lv_at hl 0 rfl) ?_
      refine z_get C (v := .ref (ad 15)) (hM.ex' hX) rfl bi_wsX80 1 (by decide) zw_8_19 rfl rfl dX8_behind_15 ?_
      refine lv_aload_n C.1 C.2.1 dX8_behind_18 rfl (lv_at hl 0 rfl) ?_
      refine z_get C (v := zN ru) (hM.ex' hX) rfl bi_wsX80 3 (by decide) zw_8_21 rfl rfl dX8_behind_19 ?_
      refine lv_aload_n C.1 C.2.1 dX8_behind_22 rfl (lv_at hl 0 rfl) ?_
      refine z_get C (v := zN en) (hM.ex' hX) rfl bi_wsX80 2 (by decide) zw_8_20 rfl rfl dX8_behind_23 ?_
      refine z_callV C (As := [zN ru, zN en]) (rest := []) (c_X10_broken l Z hM (zI ((ru : Nat) : Int)) (zI ((en : Nat) : Int))) hM.ver rfl ⟨⟨zw_9_8, zw_1_14, zw_10_1⟩, zd_X10_broken⟩ zw_9_6 zw_9_7 ⟨Nat.le_of_ble_eq_true rfl, Nat.le_of_ble_eq_true rfl⟩ ⟨rfl, rfl⟩ rfl hl.1 rfl (Nat.le_of_ble_eq_true rfl) dX8_behind_26 ⟨Nat.zero_le _, Nat.zero_le _⟩ hS (fun _ h => h) (fun v H locs hp hS _ _ => ?_)
      obtain ⟨rfl, hM⟩ := hp
      exact hret _ _ _ _ (zI (-1)) hS ⟨fun z => absurd z (by omega), fun _ => ⟨rfl, hM⟩⟩ rfl dX8_behind_29

set_option maxHeartbeats 4000000 in
set_option maxRecDepth 20000 in
theorem c_X8_behindU2 (l : Launch) (Z : zT) {H : Heap} {ad : Nat → Nat} {τ : mS} {X : List (Nat × va_E)} (hM : isC Z H ad τ X) {F : Nat → Nat} {n : Nat} (hB : cSrc τ F n) {t en ru : Nat} (hX : (t, stE ad en ru) ∈ X) (hen : en ≤ n) {k lo hi rl : Nat} (hk : k ≤ 16000) (hlo : lo < 65536) (hhi : hi < 65536) (hrl : rl < 100) : zM l Z yX8_behindU2 cX8_behindU2 6 (some .int) (rmk 3) [.ref t, zN k, zN lo, zN hi, zN rl] H (cA ad) 0 0 (fun v H' => rE Z H' ad τ X en (uS F en ru k lo hi rl) v) := by
  have hn := hB.2.2.2
  have hen0 := hen
  have hen : en ≤ 16000 := by omega
  refine zM.introI (own := RX8) ⟨by decide, rfl⟩ (Nat.le_of_ble_eq_true rfl) ?_
  intro p e s m args below meth c Q ls hH C hl hret
  have hS : va_S (cA ad) s.heap H [] := by rw [hH]; exact va_S.rf
  have hl : lv_has ls 6 [(0, .ref t), (1, zN k), (2, zN lo), (3, zN hi), (4, zN rl)] := hl
  refine lv_aload_n C.1 C.2.1 dX8_behindU2_0 rfl (lv_at hl 0 rfl) ?_
  refine lv_iload_n C.1 C.2.1 dX8_behindU2_1 rfl (lv_at hl 1 rfl) ?_
  refine lv_iconst (v := zI 2) C.1 C.2.1 dX8_behindU2_2 (by decide) ?_
  refine z_callV C (As := [zN k, zN 2]) (rest := []) (c_X8_behind l Z hM hX k (by omega) 2 (by omega) hen) (hM.ex' hX) rfl ⟨⟨zw_10_0, zw_8_3, zw_9_21⟩, zd_X8_behind⟩ zw_9_22 zw_9_23 ⟨Nat.le_of_ble_eq_true rfl, Nat.le_of_ble_eq_true rfl⟩ ⟨rfl, rfl⟩ rfl hl.1 rfl (Nat.le_of_ble_eq_true rfl) dX8_behindU2_3 ⟨Nat.zero_le _, Nat.zero_le _⟩ hS (fun _ h => h) (fun v H locs hp hS _ _ => ?_)
  obtain ⟨hp1, hp2⟩ := hp
  rcases Classical.em (0 ≤ (2 : Int) ∧ ((k : Nat) : Int) + 2 ≤ (en : Int)) with hc3 | hc3
  · obtain ⟨rfl, hM⟩ := hp1 hc3
    refine lv_istore (lv' := [(5, zN (k + 2)), (0, .ref t), (1, zN k), (2, zN lo), (3, zN hi), (4, zN rl)]) C.1 C.2.1 dX8_behindU2_6 hl (by decide) rfl (fun ls hl => ?_)
    refine lv_iload C.1 C.2.1 dX8_behindU2_8 (lv_at hl 0 rfl) ?_
    refine lv_iconst (v := zI (-1)) C.1 C.2.1 dX8_behindU2_10 (by decide) ?_
    refine y_icmp_eq (tgt := 49) C (a := ((k + 2 : Nat) : Int)) (b := -1) dX8_behindU2_11 (by decide) (by omega) (fun h11 => ?_) (fun h11 => ?_)
    · exact False.elim (by first | omega | exact h11 rfl)
    · refine lv_aload_n C.1 C.2.1 dX8_behindU2_14 rfl (lv_at hl 1 rfl) ?_
      refine z_get C (v := .ref (ad 1)) (hM.ex' hX) rfl bi_wsX80 0 (by decide) zw_8_18 rfl rfl dX8_behindU2_15 ?_
      refine lv_iload_n C.1 C.2.1 dX8_behindU2_18 rfl (lv_at hl 2 rfl) ?_
      refine z_readV C (As := [zN k]) (rest := []) (c_u2 l Z hM hB k rfl (by omega)) hM.byt rfl ⟨⟨zw_10_5, zw_2_15, zw_10_2⟩, zd_X1_u2⟩ zw_10_3 zw_10_4 ⟨Nat.le_of_ble_eq_true rfl, Nat.le_of_ble_eq_true rfl⟩ ⟨rfl, rfl⟩ rfl hl.1 rfl (Nat.le_of_ble_eq_true rfl) dX8_behindU2_19 ⟨Nat.zero_le _, Nat.zero_le _⟩ hS (fun locs hS => ?_)
      have := U2_lt hB.1 k
      refine lv_iload_n C.1 C.2.1 dX8_behindU2_22 rfl (lv_at hl 3 rfl) ?_
      refine y_icmp_lt (tgt := 38) C (a := ((U2 F k : Nat) : Int)) (b := ((lo : Nat) : Int)) dX8_behindU2_23 (by decide) (by omega) (fun h23 => ?_) (fun h23 => ?_)
      · refine lv_aload_n C.1 C.2.1 dX8_behindU2_38 rfl (lv_at hl 1 rfl) ?_
        refine z_get C (v := .ref (ad 15)) (hM.ex' hX) rfl bi_wsX80 1 (by decide) zw_8_19 rfl rfl dX8_behindU2_39 ?_
        refine lv_iload C.1 C.2.1 dX8_behindU2_42 (lv_at hl 5 rfl) ?_
        refine lv_iload_n C.1 C.2.1 dX8_behindU2_44 rfl (lv_at hl 2 rfl) ?_
        refine z_callV C (As := [zN rl, zN k]) (rest := []) (c_X10_broken l Z hM (zI ((rl : Nat) : Int)) (zI ((k : Nat) : Int))) hM.ver rfl ⟨⟨zw_9_8, zw_1_14, zw_10_1⟩, zd_X10_broken⟩ zw_9_6 zw_9_7 ⟨Nat.le_of_ble_eq_true rfl, Nat.le_of_ble_eq_true rfl⟩ ⟨rfl, rfl⟩ rfl hl.1 rfl (Nat.le_of_ble_eq_true rfl) dX8_behindU2_45 ⟨Nat.zero_le _, Nat.zero_le _⟩ hS (fun _ h => h) (fun v H locs hp hS _ _ => ?_)
        obtain ⟨rfl, hM⟩ := hp
        exact hret _ _ _ _ (zI (-1)) hS (Or.inr ⟨_, _, (by unfold uS; (repeat' split) <;> first | assumption | (exfalso; omega) | rfl), rfl, hM⟩) rfl dX8_behindU2_48
      · refine lv_aload_n C.1 C.2.1 dX8_behindU2_26 rfl (lv_at hl 1 rfl) ?_
        refine z_get C (v := .ref (ad 1)) (hM.ex' hX) rfl bi_wsX80 0 (by decide) zw_8_18 rfl rfl dX8_behindU2_27 ?_
        refine lv_iload_n C.1 C.2.1 dX8_behindU2_30 rfl (lv_at hl 2 rfl) ?_
        refine z_readV C (As := [zN k]) (rest := []) (c_u2 l Z hM hB k rfl (by omega)) hM.byt rfl ⟨⟨zw_10_5, zw_2_15, zw_10_2⟩, zd_X1_u2⟩ zw_10_3 zw_10_4 ⟨Nat.le_of_ble_eq_true rfl, Nat.le_of_ble_eq_true rfl⟩ ⟨rfl, rfl⟩ rfl hl.1 rfl (Nat.le_of_ble_eq_true rfl) dX8_behindU2_31 ⟨Nat.zero_le _, Nat.zero_le _⟩ hS (fun locs hS => ?_)
        have := U2_lt hB.1 k
        refine lv_iload_n C.1 C.2.1 dX8_behindU2_34 rfl (lv_at hl 4 rfl) ?_
        refine y_icmp_le (tgt := 49) C (a := ((U2 F k : Nat) : Int)) (b := ((hi : Nat) : Int)) dX8_behindU2_35 (by decide) (by omega) (fun h35 => ?_) (fun h35 => ?_)
        · refine lv_iload C.1 C.2.1 dX8_behindU2_49 (lv_at hl 0 rfl) ?_
          exact hret _ _ _ _ (zI ((k + 2 : Nat) : Int)) hS (Or.inl ⟨_, (by unfold uS; (repeat' split) <;> first | assumption | (exfalso; omega) | rfl), rfl, hM, (by omega)⟩) rfl dX8_behindU2_51
        · refine lv_aload_n C.1 C.2.1 dX8_behindU2_38 rfl (lv_at hl 1 rfl) ?_
          refine z_get C (v := .ref (ad 15)) (hM.ex' hX) rfl bi_wsX80 1 (by decide) zw_8_19 rfl rfl dX8_behindU2_39 ?_
          refine lv_iload C.1 C.2.1 dX8_behindU2_42 (lv_at hl 5 rfl) ?_
          refine lv_iload_n C.1 C.2.1 dX8_behindU2_44 rfl (lv_at hl 2 rfl) ?_
          refine z_callV C (As := [zN rl, zN k]) (rest := []) (c_X10_broken l Z hM (zI ((rl : Nat) : Int)) (zI ((k : Nat) : Int))) hM.ver rfl ⟨⟨zw_9_8, zw_1_14, zw_10_1⟩, zd_X10_broken⟩ zw_9_6 zw_9_7 ⟨Nat.le_of_ble_eq_true rfl, Nat.le_of_ble_eq_true rfl⟩ ⟨rfl, rfl⟩ rfl hl.1 rfl (Nat.le_of_ble_eq_true rfl) dX8_behindU2_45 ⟨Nat.zero_le _, Nat.zero_le _⟩ hS (fun _ h => h) (fun v H locs hp hS _ _ => ?_)
          obtain ⟨rfl, hM⟩ := hp
          exact hret _ _ _ _ (zI (-1)) hS (Or.inr ⟨_, _, (by unfold uS; (repeat' split) <;> first | assumption | (exfalso; omega) | rfl), rfl, hM⟩) rfl dX8_behindU2_48
  · obtain ⟨rfl, hM⟩ := hp2 hc3
    refine lv_istore (lv' := [(5, zV (-1)), (0, .ref t), (1, zN k), (2, zN lo), (3, zN hi), (4, zN rl)]) C.1 C.2.1 dX8_behindU2_6 hl (by decide) rfl (fun ls hl => ?_)
    refine lv_iload C.1 C.2.1 dX8_behindU2_8 (lv_at hl 0 rfl) ?_
    refine lv_iconst (v := zI (-1)) C.1 C.2.1 dX8_behindU2_10 (by decide) ?_
    refine y_icmp_eq (tgt := 49) C (a := -1) (b := -1) dX8_behindU2_11 (by decide) (by omega) (fun h11 => ?_) (fun h11 => ?_)
    · refine lv_iload C.1 C.2.1 dX8_behindU2_49 (lv_at hl 0 rfl) ?_
      exact hret _ _ _ _ (zI (-1)) hS (Or.inr ⟨_, _, (by unfold uS; (repeat' split) <;> first | assumption | (exfalso; omega) | rfl), rfl, hM⟩) rfl dX8_behindU2_51
    · exact False.elim (by first | omega | exact h11 rfl)

set_option maxHeartbeats 4000000 in
set_option maxRecDepth 20000 in
theorem c_X8_behindAttributes (l : Launch) (Z : zT) {H : Heap} {ad : Nat → Nat} {τ : mS} {X : List (Nat × va_E)} (hM : isC Z H ad τ X) {F : Nat → Nat} {n : Nat} (hB : cSrc τ F n) {t en ru : Nat} (hX : (t, stE ad en ru) ∈ X) (hen : en ≤ n) {k : Nat} (hk : k ≤ 16000) : zM l Z yX8_behindAttributes cX8_behindAttributes 6 (some .int) (rmk 3) [.ref t, zN k] H (cA ad) 0 0 (fun v H' => rE Z H' ad τ X en (aAs F en ru k) v) := by
  have hn := hB.2.2.2
  have hen0 := hen
  have hen : en ≤ 16000 := by omega
  have hu2 := U2_lt hB.1 k
  refine zM.introI (own := RX8) ⟨by decide, rfl⟩ (Nat.le_of_ble_eq_true rfl) ?_
  intro p e s m args below meth c Q ls hH C hl hret
  have hS : va_S (cA ad) s.heap H [] := by rw [hH]; exact va_S.rf
  have hl : lv_has ls 6 [(0, .ref t), (1, zN k)] := hl
  refine lv_aload_n C.1 C.2.1 dX8_behindAttributes_0 rfl (lv_at hl 0 rfl) ?_
  refine lv_iload_n C.1 C.2.1 dX8_behindAttributes_1 rfl (lv_at hl 1 rfl) ?_
  refine lv_iconst (v := zI 2) C.1 C.2.1 dX8_behindAttributes_2 (by decide) ?_
  refine z_callV C (As := [zN k, zN 2]) (rest := []) (c_X8_behind l Z hM hX k (by omega) 2 (by omega) hen) (hM.ex' hX) rfl ⟨⟨zw_10_0, zw_8_3, zw_9_21⟩, zd_X8_behind⟩ zw_9_22 zw_9_23 ⟨Nat.le_of_ble_eq_true rfl, Nat.le_of_ble_eq_true rfl⟩ ⟨rfl, rfl⟩ rfl hl.1 rfl (Nat.le_of_ble_eq_true rfl) dX8_behindAttributes_3 ⟨Nat.zero_le _, Nat.zero_le _⟩ hS (fun _ h => h) (fun v H locs hp hS _ _ => ?_)
  obtain ⟨hp1, hp2⟩ := hp
  rcases Classical.em (0 ≤ (2 : Int) ∧ ((k : Nat) : Int) + 2 ≤ (en : Int)) with hc3 | hc3
  · obtain ⟨rfl, hM⟩ := hp1 hc3
    refine lv_istore_n (lv' := [(2, zN (k + 2)), (0, .ref t), (1, zN k)]) C.1 C.2.1 dX8_behindAttributes_6 rfl hl (by decide) rfl (fun ls hl => ?_)
    refine lv_iload_n C.1 C.2.1 dX8_behindAttributes_7 rfl (lv_at hl 0 rfl) ?_
    refine lv_iconst (v := zI (-1)) C.1 C.2.1 dX8_behindAttributes_8 (by decide) ?_
    refine y_icmp_ne (tgt := 16) C (a := ((k + 2 : Nat) : Int)) (b := -1) dX8_behindAttributes_9 (by decide) (by omega) (fun h9 => ?_) (fun h9 => ?_)
    · refine lv_aload_n C.1 C.2.1 dX8_behindAttributes_16 rfl (lv_at hl 1 rfl) ?_
      refine z_get C (v := .ref (ad 1)) (hM.ex' hX) rfl bi_wsX80 0 (by decide) zw_8_18 rfl rfl dX8_behindAttributes_17 ?_
      refine lv_iload_n C.1 C.2.1 dX8_behindAttributes_20 rfl (lv_at hl 2 rfl) ?_
      refine z_readV C (As := [zN k]) (rest := []) (c_u2 l Z hM hB k rfl (by omega)) hM.byt rfl ⟨⟨zw_10_5, zw_2_15, zw_10_2⟩, zd_X1_u2⟩ zw_10_3 zw_10_4 ⟨Nat.le_of_ble_eq_true rfl, Nat.le_of_ble_eq_true rfl⟩ ⟨rfl, rfl⟩ rfl hl.1 rfl (Nat.le_of_ble_eq_true rfl) dX8_behindAttributes_21 ⟨Nat.zero_le _, Nat.zero_le _⟩ hS (fun locs hS => ?_)
      have := U2_lt hB.1 k
      refine lv_istore_n (lv' := [(3, zN (U2 F k)), (2, zN (k + 2)), (0, .ref t), (1, zN k)]) C.1 C.2.1 dX8_behindAttributes_24 rfl hl (by decide) rfl (fun ls hl => ?_)
      refine lv_iconst (v := zI 0) C.1 C.2.1 dX8_behindAttributes_25 (by decide) ?_
      refine lv_istore (lv' := [(4, zN 0), (3, zN (U2 F k)), (2, zN (k + 2)), (0, .ref t), (1, zN k)]) C.1 C.2.1 dX8_behindAttributes_26 hl (by decide) rfl (fun ls hl => ?_)
      have loop : ∀ (fu : Nat) (i : Nat) (q : Nat) (H : Heap) (ls : Array Slot) (locs : List Loc), va_S (cA ad) s.heap H locs → isC Z H ad τ X → (i ≤ U2 F k) → (U2 F k < i + fu) → (q ≤ en) → (aA F en ru (U2 F k - i) q = aAs F en ru k) → lv_has ls 6 [(4, zN i), (3, zN (U2 F k)), (2, zN q), (0, .ref t), (1, zN k)] → W p l e (rmk 3) s m args below meth c H locs 0 0 Q (F0 m 28 ls []) := by
        intro fu
        induction fu with
        | zero =>
          intro i q H ls locs hS hM hi hf hq he hl
          omega
        | succ fu ih_loop =>
          intro i q H ls locs hS hM hi hf hq he hl
          have hsu := S4_U4 hB.1 (q + 2)
          refine lv_iload C.1 C.2.1 dX8_behindAttributes_28 (lv_at hl 0 rfl) ?_
          refine lv_iload_n C.1 C.2.1 dX8_behindAttributes_30 rfl (lv_at hl 1 rfl) ?_
          refine y_icmp_ge (tgt := 79) C (a := ((i : Nat) : Int)) (b := ((U2 F k : Nat) : Int)) dX8_behindAttributes_31 (by decide) (by omega) (fun h31 => ?_) (fun h31 => ?_)
          · refine lv_iload_n C.1 C.2.1 dX8_behindAttributes_79 rfl (lv_at hl 2 rfl) ?_
            exact hret _ _ _ _ (zI ((q : Nat) : Int)) hS (Or.inl ⟨q, (by rw [← he, show U2 F k - i = 0 by omega]; rfl), rfl, hM, hq⟩) rfl dX8_behindAttributes_80
          · refine lv_iload_n C.1 C.2.1 dX8_behindAttributes_34 rfl (lv_at hl 2 rfl) ?_
            refine lv_iconst (v := zI (-1)) C.1 C.2.1 dX8_behindAttributes_35 (by decide) ?_
            refine y_icmp_eq (tgt := 79) C (a := ((q : Nat) : Int)) (b := -1) dX8_behindAttributes_36 (by decide) (by omega) (fun h36 => ?_) (fun h36 => ?_)
            · exact False.elim (by first | omega | exact h36 rfl)
            · refine lv_iload_n C.1 C.2.1 dX8_behindAttributes_39 rfl (lv_at hl 2 rfl) ?_
              refine lv_istore (lv' := [(5, zN q), (4, zN i), (3, zN (U2 F k)), (2, zN q), (0, .ref t), (1, zN k)]) C.1 C.2.1 dX8_behindAttributes_40 hl (by decide) rfl (fun ls hl => ?_)
              refine lv_aload_n C.1 C.2.1 dX8_behindAttributes_42 rfl (lv_at hl 4 rfl) ?_
              refine lv_iload C.1 C.2.1 dX8_behindAttributes_43 (lv_at hl 0 rfl) ?_
              refine lv_bipush (v := zI 6) C.1 C.2.1 dX8_behindAttributes_45 (by decide) ?_
              refine z_callV C (As := [zN q, zN 6]) (rest := []) (c_X8_behind l Z hM hX q (by omega) 6 (by omega) hen) (hM.ex' hX) rfl ⟨⟨zw_10_0, zw_8_3, zw_9_21⟩, zd_X8_behind⟩ zw_9_22 zw_9_23 ⟨Nat.le_of_ble_eq_true rfl, Nat.le_of_ble_eq_true rfl⟩ ⟨rfl, rfl⟩ rfl hl.1 rfl (Nat.le_of_ble_eq_true rfl) dX8_behindAttributes_47 ⟨Nat.zero_le _, Nat.zero_le _⟩ hS (fun _ h => h) (fun v H locs hp hS _ _ => ?_)
              obtain ⟨hp1, hp2⟩ := hp
              rcases Classical.em (0 ≤ (6 : Int) ∧ ((q : Nat) : Int) + 6 ≤ (en : Int)) with hc47 | hc47
              · obtain ⟨rfl, hM⟩ := hp1 hc47
                refine lv_istore_n (lv' := [(2, zN (q + 6)), (5, zN q), (4, zN i), (3, zN (U2 F k)), (0, .ref t), (1, zN k)]) C.1 C.2.1 dX8_behindAttributes_50 rfl hl (by decide) rfl (fun ls hl => ?_)
                refine lv_iload_n C.1 C.2.1 dX8_behindAttributes_51 rfl (lv_at hl 0 rfl) ?_
                refine lv_iconst (v := zI (-1)) C.1 C.2.1 dX8_behindAttributes_52 (by decide) ?_
                refine y_icmp_eq (tgt := 73) C (a := ((q + 6 : Nat) : Int)) (b := -1) dX8_behindAttributes_53 (by decide) (by omega) (fun h53 => ?_) (fun h53 => ?_)
                · exact False.elim (by first | omega | exact h53 rfl)
                · refine lv_aload_n C.1 C.2.1 dX8_behindAttributes_56 rfl (lv_at hl 4 rfl) ?_
                  refine lv_iload_n C.1 C.2.1 dX8_behindAttributes_57 rfl (lv_at hl 0 rfl) ?_
                  refine lv_aload_n C.1 C.2.1 dX8_behindAttributes_58 rfl (lv_at hl 4 rfl) ?_
                  refine z_get C (v := .ref (ad 1)) (hM.ex' hX) rfl bi_wsX80 0 (by decide) zw_8_18 rfl rfl dX8_behindAttributes_59 ?_
                  refine lv_iload C.1 C.2.1 dX8_behindAttributes_62 (lv_at hl 1 rfl) ?_
                  refine lv_iconst (v := zI 2) C.1 C.2.1 dX8_behindAttributes_64 (by decide) ?_
                  refine y_iaddN C (a := q) (b := 2) dX8_behindAttributes_65 ?_
                  refine z_readV C (As := [zN (q + 2)]) (rest := [zN (q + 6), .ref t]) (c_s4 l Z hM hB (q + 2) rfl (by omega)) hM.byt rfl ⟨⟨zw_13_1, zw_2_15, zw_12_22⟩, zd_X1_s4⟩ zw_12_23 zw_13_0 ⟨Nat.le_of_ble_eq_true rfl, Nat.le_of_ble_eq_true rfl⟩ ⟨rfl, rfl⟩ rfl hl.1 rfl (Nat.le_of_ble_eq_true rfl) dX8_behindAttributes_66 ⟨Nat.zero_le _, Nat.zero_le _⟩ hS (fun locs hS => ?_)
                  have := S4_rg hB.1 (q + 2)
                  refine z_callV C (As := [zN (q + 6), zV (S4 F (q + 2))]) (rest := []) (c_X8_behind l Z hM hX (q + 6) (by omega) (S4 F (q + 2)) (by omega) hen) (hM.ex' hX) rfl ⟨⟨zw_10_0, zw_8_3, zw_9_21⟩, zd_X8_behind⟩ zw_9_22 zw_9_23 ⟨Nat.le_of_ble_eq_true rfl, Nat.le_of_ble_eq_true rfl⟩ ⟨rfl, rfl⟩ rfl hl.1 rfl (Nat.le_of_ble_eq_true rfl) dX8_behindAttributes_69 ⟨Nat.zero_le _, Nat.zero_le _⟩ hS (fun _ h => h) (fun v H locs hp hS _ _ => ?_)
                  obtain ⟨hp1, hp2⟩ := hp
                  rcases Classical.em (0 ≤ (S4 F (q + 2) : Int) ∧ ((q + 6 : Nat) : Int) + (S4 F (q + 2)) ≤ (en : Int)) with hc69 | hc69
                  · obtain ⟨rfl, hM⟩ := hp1 hc69
                    refine lv_istore_n (lv' := [(2, zV (((q + 6 : Nat) : Int) + (S4 F (q + 2)))), (5, zN q), (4, zN i), (3, zN (U2 F k)), (0, .ref t), (1, zN k)]) C.1 C.2.1 dX8_behindAttributes_72 rfl hl (by decide) rfl (fun ls hl => ?_)
                    have hl : lv_has ls 6 [(2, zN (q + 6 + U4 F (q + 2))), (5, zN q), (4, zN i), (3, zN (U2 F k)), (0, .ref t), (1, zN k)] := by
                      have e9 : zN (q + 6 + U4 F (q + 2)) = zV (((q + 6 : Nat) : Int) + (S4 F (q + 2))) := congrArg (fun x : Int => Value.int (zI x)) (by omega)
                      rw [e9]; exact hl
                    refine lv_iinc (v := zI ((i + 1 : Nat) : Int)) (lv' := [(4, zN (i + 1)), (2, zN (q + 6 + U4 F (q + 2))), (5, zN q), (3, zN (U2 F k)), (0, .ref t), (1, zN k)]) C.1 C.2.1 dX8_behindAttributes_73 hl (k := 2) rfl (zI_add _ _) (by decide) rfl (fun ls hl => ?_)
                    refine lv_goto (tgt := 28) C.1 C.2.1 dX8_behindAttributes_76 (by decide) ?_
                    exact ih_loop (i + 1) (q + 6 + U4 F (q + 2)) _ ls _ hS hM (by omega) (by omega) (by omega) (by rw [← he, show U2 F k - i = (U2 F k - (i + 1)) + 1 by omega]; conv => rhs; unfold aA; rw [if_pos (by omega), if_pos (by omega)]) (lv_sub hl [0, 3, 1, 4, 5] rfl)
                  · obtain ⟨rfl, hM⟩ := hp2 hc69
                    refine lv_istore_n (lv' := [(2, zV (-1)), (5, zN q), (4, zN i), (3, zN (U2 F k)), (0, .ref t), (1, zN k)]) C.1 C.2.1 dX8_behindAttributes_72 rfl hl (by decide) rfl (fun ls hl => ?_)
                    refine lv_iinc (v := zI ((i + 1 : Nat) : Int)) (lv' := [(4, zN (i + 1)), (2, zV (-1)), (5, zN q), (3, zN (U2 F k)), (0, .ref t), (1, zN k)]) C.1 C.2.1 dX8_behindAttributes_73 hl (k := 2) rfl (zI_add _ _) (by decide) rfl (fun ls hl => ?_)
                    refine lv_goto (tgt := 28) C.1 C.2.1 dX8_behindAttributes_76 (by decide) ?_
                    refine lv_iload C.1 C.2.1 dX8_behindAttributes_28 (lv_at hl 0 rfl) ?_
                    refine lv_iload_n C.1 C.2.1 dX8_behindAttributes_30 rfl (lv_at hl 3 rfl) ?_
                    refine y_icmp_ge (tgt := 79) C (a := ((i + 1 : Nat) : Int)) (b := ((U2 F k : Nat) : Int)) dX8_behindAttributes_31 (by decide) (by omega) (fun h31 => ?_) (fun h31 => ?_)
                    · refine lv_iload_n C.1 C.2.1 dX8_behindAttributes_79 rfl (lv_at hl 1 rfl) ?_
                      exact hret _ _ _ _ (zI (-1)) hS (Or.inr ⟨_, _, (by rw [← he, show U2 F k - i = (U2 F k - (i + 1)) + 1 by omega]; unfold aA; (first | rw [if_neg (by omega)] | rw [if_pos (by omega), if_neg (by omega)])), rfl, hM⟩) rfl dX8_behindAttributes_80
                    · refine lv_iload_n C.1 C.2.1 dX8_behindAttributes_34 rfl (lv_at hl 1 rfl) ?_
                      refine lv_iconst (v := zI (-1)) C.1 C.2.1 dX8_behindAttributes_35 (by decide) ?_
                      refine y_icmp_eq (tgt := 79) C (a := -1) (b := -1) dX8_behindAttributes_36 (by decide) (by omega) (fun h36 => ?_) (fun h36 => ?_)
                      · refine lv_iload_n C.1 C.2.1 dX8_behindAttributes_79 rfl (lv_at hl 1 rfl) ?_
                        exact hret _ _ _ _ (zI (-1)) hS (Or.inr ⟨_, _, (by rw [← he, show U2 F k - i = (U2 F k - (i + 1)) + 1 by omega]; unfold aA; (first | rw [if_neg (by omega)] | rw [if_pos (by omega), if_neg (by omega)])), rfl, hM⟩) rfl dX8_behindAttributes_80
                      · exact False.elim (by first | omega | exact h36 rfl)
              · obtain ⟨rfl, hM⟩ := hp2 hc47
                refine lv_istore_n (lv' := [(2, zV (-1)), (5, zN q), (4, zN i), (3, zN (U2 F k)), (0, .ref t), (1, zN k)]) C.1 C.2.1 dX8_behindAttributes_50 rfl hl (by decide) rfl (fun ls hl => ?_)
                refine lv_iload_n C.1 C.2.1 dX8_behindAttributes_51 rfl (lv_at hl 0 rfl) ?_
                refine lv_iconst (v := zI (-1)) C.1 C.2.1 dX8_behindAttributes_52 (by decide) ?_
                refine y_icmp_eq (tgt := 73) C (a := -1) (b := -1) dX8_behindAttributes_53 (by decide) (by omega) (fun h53 => ?_) (fun h53 => ?_)
                · refine lv_iinc (v := zI ((i + 1 : Nat) : Int)) (lv' := [(4, zN (i + 1)), (2, zV (-1)), (5, zN q), (3, zN (U2 F k)), (0, .ref t), (1, zN k)]) C.1 C.2.1 dX8_behindAttributes_73 hl (k := 2) rfl (zI_add _ _) (by decide) rfl (fun ls hl => ?_)
                  refine lv_goto (tgt := 28) C.1 C.2.1 dX8_behindAttributes_76 (by decide) ?_
                  refine lv_iload C.1 C.2.1 dX8_behindAttributes_28 (lv_at hl 0 rfl) ?_
                  refine lv_iload_n C.1 C.2.1 dX8_behindAttributes_30 rfl (lv_at hl 3 rfl) ?_
                  refine y_icmp_ge (tgt := 79) C (a := ((i + 1 : Nat) : Int)) (b := ((U2 F k : Nat) : Int)) dX8_behindAttributes_31 (by decide) (by omega) (fun h31 => ?_) (fun h31 => ?_)
                  · refine lv_iload_n C.1 C.2.1 dX8_behindAttributes_79 rfl (lv_at hl 1 rfl) ?_
                    exact hret _ _ _ _ (zI (-1)) hS (Or.inr ⟨_, _, (by rw [← he, show U2 F k - i = (U2 F k - (i + 1)) + 1 by omega]; unfold aA; (first | rw [if_neg (by omega)] | rw [if_pos (by omega), if_neg (by omega)])), rfl, hM⟩) rfl dX8_behindAttributes_80
                  · refine lv_iload_n C.1 C.2.1 dX8_behindAttributes_34 rfl (lv_at hl 1 rfl) ?_
                    refine lv_iconst (v := zI (-1)) C.1 C.2.1 dX8_behindAttributes_35 (by decide) ?_
                    refine y_icmp_eq (tgt := 79) C (a := -1) (b := -1) dX8_behindAttributes_36 (by decide) (by omega) (fun h36 => ?_) (fun h36 => ?_)
                    · refine lv_iload_n C.1 C.2.1 dX8_behindAttributes_79 rfl (lv_at hl 1 rfl) ?_
                      exact hret _ _ _ _ (zI (-1)) hS (Or.inr ⟨_, _, (by rw [← he, show U2 F k - i = (U2 F k - (i + 1)) + 1 by omega]; unfold aA; (first | rw [if_neg (by omega)] | rw [if_pos (by omega), if_neg (by omega)])), rfl, hM⟩) rfl dX8_behindAttributes_80
                    · exact False.elim (by first | omega | exact h36 rfl)
                · exact False.elim (by first | omega | exact h53 rfl)
      exact loop (U2 F k + 1) 0 (k + 2) _ ls _ hS hM (by omega) (by omega) (by omega) (by unfold aAs; rw [if_pos (by omega)]; rfl) hl
    · exact False.elim (by first | omega | exact h9 rfl)
  · obtain ⟨rfl, hM⟩ := hp2 hc3
    refine lv_istore_n (lv' := [(2, zV (-1)), (0, .ref t), (1, zN k)]) C.1 C.2.1 dX8_behindAttributes_6 rfl hl (by decide) rfl (fun ls hl => ?_)
    refine lv_iload_n C.1 C.2.1 dX8_behindAttributes_7 rfl (lv_at hl 0 rfl) ?_
    refine lv_iconst (v := zI (-1)) C.1 C.2.1 dX8_behindAttributes_8 (by decide) ?_
    refine y_icmp_ne (tgt := 16) C (a := -1) (b := -1) dX8_behindAttributes_9 (by decide) (by omega) (fun h9 => ?_) (fun h9 => ?_)
    · exact False.elim (by first | omega | exact h9 rfl)
    · refine lv_iconst (v := zI 0) C.1 C.2.1 dX8_behindAttributes_12 (by decide) ?_
      refine lv_goto (tgt := 24) C.1 C.2.1 dX8_behindAttributes_13 (by decide) ?_
      refine lv_istore_n (lv' := [(3, zN 0), (2, zV (-1)), (0, .ref t), (1, zN k)]) C.1 C.2.1 dX8_behindAttributes_24 rfl hl (by decide) rfl (fun ls hl => ?_)
      refine lv_iconst (v := zI 0) C.1 C.2.1 dX8_behindAttributes_25 (by decide) ?_
      refine lv_istore (lv' := [(4, zN 0), (3, zN 0), (2, zV (-1)), (0, .ref t), (1, zN k)]) C.1 C.2.1 dX8_behindAttributes_26 hl (by decide) rfl (fun ls hl => ?_)
      refine lv_iload C.1 C.2.1 dX8_behindAttributes_28 (lv_at hl 0 rfl) ?_
      refine lv_iload_n C.1 C.2.1 dX8_behindAttributes_30 rfl (lv_at hl 1 rfl) ?_
      refine y_icmp_ge (tgt := 79) C (a := 0) (b := 0) dX8_behindAttributes_31 (by decide) (by omega) (fun h31 => ?_) (fun h31 => ?_)
      · refine lv_iload_n C.1 C.2.1 dX8_behindAttributes_79 rfl (lv_at hl 2 rfl) ?_
        exact hret _ _ _ _ (zI (-1)) hS (Or.inr ⟨_, _, (by unfold aAs; rw [if_neg (by omega)]), rfl, hM⟩) rfl dX8_behindAttributes_80
      · exact False.elim (by first | omega | exact h31 rfl)

theorem hd_lt (k : Nat) : hd k < 256 := by unfold hd; split <;> decide

set_option maxHeartbeats 4000000 in
set_option maxRecDepth 20000 in
theorem c_X4_behindHead (l : Launch) (Z : zT) {H : Heap} {ad : Nat → Nat} {τ : mS} {X : List (Nat × va_E)} (hM : isC Z H ad τ X) {F : Nat → Nat} {en : Nat} (hB : cSrc τ F en) {t ru : Nat} (hr1 : ru = 2) (hX : (t, stE ad en ru) ∈ X) : zM l Z yX4_behindHead cX4_behindHead 2 (some .int) (rmk 2) [.ref t] H (cA ad) 0 0 (fun v H' => (xHead F en 8 = .ok () ∧ v = some (zN 8) ∧ isC Z H' ad τ X) ∨ ∃ r w, xHead F en 8 = .error (r, w) ∧ v = some (zV (-1)) ∧ isC Z H' ad (sx (sx τ 8 (zI ((r : Nat) : Int))) 9 (zI ((w : Nat) : Int))) X) := by
  have hn := hB.2.2.2
  subst hr1
  refine zM.introI (own := RX4) ⟨by decide, rfl⟩ (Nat.le_of_ble_eq_true rfl) ?_
  intro p e s m args below meth c Q ls hH C hl hret
  have hS : va_S (cA ad) s.heap H [] := by rw [hH]; exact va_S.rf
  have hl : lv_has ls 2 [(0, .ref t)] := hl
  obtain ⟨th, hZh, hTh⟩ := C.2.2.2.2.2.2.2.2.2.2.2.2.1
  refine lv_iconst (v := zI 0) C.1 C.2.1 dX4_behindHead_0 (by decide) ?_
  refine lv_istore_n (lv' := [(1, zN 0), (0, .ref t)]) C.1 C.2.1 dX4_behindHead_1 rfl hl (by decide) rfl (fun ls hl => ?_)
  have loop : ∀ (fu : Nat) (q : Nat) (H : Heap) (ls : Array Slot) (locs : List Loc), va_S (cA ad) s.heap H locs → isC Z H ad τ X → (q ≤ 8 ∧ 8 < q + fu) → (xHead F en (8 - q) = xHead F en 8) → lv_has ls 2 [(1, zN q), (0, .ref t)] → W p l e (rmk 2) s m args below meth c H locs 0 0 Q (F0 m 2 ls []) := by
    intro fu
    induction fu with
    | zero =>
      intro q H ls locs hS hM hq he hl
      omega
    | succ fu ih_loop =>
      intro q H ls locs hS hM hq he hl
      refine lv_iload_n C.1 C.2.1 dX4_behindHead_2 rfl (lv_at hl 0 rfl) ?_
      refine va_gets C.1 C.2.1 hZh hS C.2.2.2.1 (C.2.2.2.2.1 _ zw_9_1) (fun _ h => h) dX4_behindHead_3 ?_
      refine va_tlen C.1 C.2.1 hTh hS (v := zI 8) rfl dX4_behindHead_6 ?_
      refine y_icmp_ge (tgt := 63) C (a := ((q : Nat) : Int)) (b := 8) dX4_behindHead_7 (by decide) (by omega) (fun h7 => ?_) (fun h7 => ?_)
      · refine va_gets C.1 C.2.1 hZh hS C.2.2.2.1 (C.2.2.2.2.1 _ zw_9_1) (fun _ h => h) dX4_behindHead_63 ?_
        refine va_tlen C.1 C.2.1 hTh hS (v := zI 8) rfl dX4_behindHead_66 ?_
        exact hret _ _ _ _ (zI 8) hS (Or.inl ⟨(by rw [← he, show 8 - q = 0 by omega]; rfl), rfl, hM⟩) rfl dX4_behindHead_67
      · refine lv_iload_n C.1 C.2.1 dX4_behindHead_10 rfl (lv_at hl 0 rfl) ?_
        refine lv_aload_n C.1 C.2.1 dX4_behindHead_11 rfl (lv_at hl 1 rfl) ?_
        refine z_get C (v := zN en) (hM.ex' hX) rfl bi_wsX80 2 (by decide) zw_9_2 rfl rfl dX4_behindHead_12 ?_
        refine y_icmp_lt (tgt := 31) C (a := ((q : Nat) : Int)) (b := ((en : Nat) : Int)) dX4_behindHead_15 (by decide) (by omega) (fun h15 => ?_) (fun h15 => ?_)
        · refine lv_aload_n C.1 C.2.1 dX4_behindHead_31 rfl (lv_at hl 1 rfl) ?_
          refine z_get C (v := .ref (ad 1)) (hM.ex' hX) rfl bi_wsX80 0 (by decide) zw_9_4 rfl rfl dX4_behindHead_32 ?_
          refine lv_iload_n C.1 C.2.1 dX4_behindHead_35 rfl (lv_at hl 0 rfl) ?_
          refine z_readV C (As := [zN q]) (rest := []) (c_u1 l Z hM hB q rfl (by omega)) hM.byt rfl ⟨⟨zw_9_12, zw_2_15, zw_9_9⟩, zd_X1_u1⟩ zw_9_10 zw_9_11 ⟨Nat.le_of_ble_eq_true rfl, Nat.le_of_ble_eq_true rfl⟩ ⟨rfl, rfl⟩ rfl hl.1 rfl (Nat.le_of_ble_eq_true rfl) dX4_behindHead_36 ⟨Nat.zero_le _, Nat.zero_le _⟩ hS (fun locs hS => ?_)
          have := hB.1 q
          refine va_gets C.1 C.2.1 hZh hS C.2.2.2.1 (C.2.2.2.2.1 _ zw_9_1) (fun _ h => h) dX4_behindHead_39 ?_
          refine lv_iload_n C.1 C.2.1 dX4_behindHead_42 rfl (lv_at hl 0 rfl) ?_
          refine z_re (y := nI q) (zI_nat _) ?_
          refine va_ti C.1 C.2.1 hTh hS (v := zN (hd q)) (vp_in_nI (by omega) (by decide)) (by rw [nI_clamp (by omega)]) dX4_behindHead_43 ?_
          have hq43 := hd_lt q
          refine y_icmp_eq (tgt := 57) C (a := ((F q : Nat) : Int)) (b := ((hd q : Nat) : Int)) dX4_behindHead_44 (by decide) (by omega) (fun h44 => ?_) (fun h44 => ?_)
          · refine lv_iinc (v := zI ((q + 1 : Nat) : Int)) (lv' := [(1, zN (q + 1)), (0, .ref t)]) C.1 C.2.1 dX4_behindHead_57 hl (k := 0) rfl (zI_add _ _) (by decide) rfl (fun ls hl => ?_)
            refine lv_goto (tgt := 2) C.1 C.2.1 dX4_behindHead_60 (by decide) ?_
            exact ih_loop (q + 1) _ ls _ hS hM (by omega) (by rw [← he, show 8 - q = (7 - q) + 1 by omega]; (conv => rhs; unfold xHead; rw [show 7 - (7 - q) = q by omega, if_neg (by omega), if_pos (by omega)]); rw [show 8 - (q + 1) = 7 - q by omega]) hl
          · refine lv_aload_n C.1 C.2.1 dX4_behindHead_47 rfl (lv_at hl 1 rfl) ?_
            refine z_get C (v := .ref (ad 15)) (hM.ex' hX) rfl bi_wsX80 1 (by decide) zw_9_3 rfl rfl dX4_behindHead_48 ?_
            refine lv_iconst (v := zI 1) C.1 C.2.1 dX4_behindHead_51 (by decide) ?_
            refine lv_iload_n C.1 C.2.1 dX4_behindHead_52 rfl (lv_at hl 0 rfl) ?_
            refine z_callV C (As := [zN 1, zN q]) (rest := []) (c_X10_broken l Z hM (zI 1) (zI ((q : Nat) : Int))) hM.ver rfl ⟨⟨zw_9_8, zw_1_14, zw_9_5⟩, zd_X10_broken⟩ zw_9_6 zw_9_7 ⟨Nat.le_of_ble_eq_true rfl, Nat.le_of_ble_eq_true rfl⟩ ⟨rfl, rfl⟩ rfl hl.1 rfl (Nat.le_of_ble_eq_true rfl) dX4_behindHead_53 ⟨Nat.zero_le _, Nat.zero_le _⟩ hS (fun _ h => h) (fun v H locs hp hS _ _ => ?_)
            obtain ⟨rfl, hM⟩ := hp
            exact hret _ _ _ _ (zI (-1)) hS (Or.inr ⟨_, _, (by rw [← he, show 8 - q = (7 - q) + 1 by omega]; unfold xHead; rw [show 7 - (7 - q) = q by omega]; (first | rw [if_pos (by omega)] | rw [if_neg (by omega), if_neg (by omega)])), rfl, hM⟩) rfl dX4_behindHead_56
        · refine lv_aload_n C.1 C.2.1 dX4_behindHead_18 rfl (lv_at hl 1 rfl) ?_
          refine z_get C (v := .ref (ad 15)) (hM.ex' hX) rfl bi_wsX80 1 (by decide) zw_9_3 rfl rfl dX4_behindHead_19 ?_
          refine lv_iconst (v := zI 2) C.1 C.2.1 dX4_behindHead_22 (by decide) ?_
          refine lv_aload_n C.1 C.2.1 dX4_behindHead_23 rfl (lv_at hl 1 rfl) ?_
          refine z_get C (v := zN en) (hM.ex' hX) rfl bi_wsX80 2 (by decide) zw_9_2 rfl rfl dX4_behindHead_24 ?_
          refine z_callV C (As := [zN 2, zN en]) (rest := []) (c_X10_broken l Z hM (zI 2) (zI ((en : Nat) : Int))) hM.ver rfl ⟨⟨zw_9_8, zw_1_14, zw_9_5⟩, zd_X10_broken⟩ zw_9_6 zw_9_7 ⟨Nat.le_of_ble_eq_true rfl, Nat.le_of_ble_eq_true rfl⟩ ⟨rfl, rfl⟩ rfl hl.1 rfl (Nat.le_of_ble_eq_true rfl) dX4_behindHead_27 ⟨Nat.zero_le _, Nat.zero_le _⟩ hS (fun _ h => h) (fun v H locs hp hS _ _ => ?_)
          obtain ⟨rfl, hM⟩ := hp
          exact hret _ _ _ _ (zI (-1)) hS (Or.inr ⟨_, _, (by rw [← he, show 8 - q = (7 - q) + 1 by omega]; unfold xHead; rw [show 7 - (7 - q) = q by omega]; (first | rw [if_pos (by omega)] | rw [if_neg (by omega), if_neg (by omega)])), rfl, hM⟩) rfl dX4_behindHead_30
  exact loop 9 0 _ ls _ hS hM (by omega) rfl hl

set_option maxHeartbeats 4000000 in
set_option maxRecDepth 20000 in
theorem c_X4_entryLength (l : Launch) (Z : zT) {H : Heap} (k : Nat) (hk : k < 256) : zP l Z yX4_entryLength cX4_entryLength 1 (some .int) (rmk 1) [zN k] H (zN (entLen k)) := by
  refine zM.introI (own := RX4) ⟨by decide, rfl⟩ (Nat.le_of_ble_eq_true rfl) ?_
  intro p e s m args below meth c Q ls hH C hl hret
  have hS : va_S (fun _ => False) s.heap H [] := by rw [hH]; exact va_S.rf
  have hl : lv_has ls 1 [(0, zN k)] := hl
  refine lv_iload_n C.1 C.2.1 dX4_entryLength_0 rfl (lv_at hl 0 rfl) ?_
  rcases (show ((k : Nat) : Int) = 3 ∨ ((k : Nat) : Int) = 4 ∨ ((k : Nat) : Int) = 5 ∨ ((k : Nat) : Int) = 6 ∨ ((k : Nat) : Int) = 7 ∨ ((k : Nat) : Int) = 8 ∨ ((k : Nat) : Int) = 9 ∨ ((k : Nat) : Int) = 10 ∨ ((k : Nat) : Int) = 11 ∨ ((k : Nat) : Int) = 12 ∨ (((k : Nat) : Int) < 3 ∨ 12 < ((k : Nat) : Int)) by omega) with h1 | h1 | h1 | h1 | h1 | h1 | h1 | h1 | h1 | h1 | h1
  · refine y_tabIn C 3 h1 dX4_entryLength_1 (by decide) rfl (tgt := 56) (by decide) ?_
    refine lv_iconst (v := zI 5) C.1 C.2.1 dX4_entryLength_56 (by decide) ?_
    exact hret _ _ _ _ (zI 5) hS ⟨congrArg (fun x : Int => some (zV x)) (by unfold entLen; (repeat' split) <;> omega), rfl⟩ rfl dX4_entryLength_57
  · refine y_tabIn C 4 h1 dX4_entryLength_1 (by decide) rfl (tgt := 63) (by decide) ?_
    refine lv_iconst (v := zI 0) C.1 C.2.1 dX4_entryLength_63 (by decide) ?_
    exact hret _ _ _ _ (zI 0) hS ⟨congrArg (fun x : Int => some (zV x)) (by unfold entLen; (repeat' split) <;> omega), rfl⟩ rfl dX4_entryLength_64
  · refine y_tabIn C 5 h1 dX4_entryLength_1 (by decide) rfl (tgt := 58) (by decide) ?_
    refine lv_bipush (v := zI 9) C.1 C.2.1 dX4_entryLength_58 (by decide) ?_
    exact hret _ _ _ _ (zI 9) hS ⟨congrArg (fun x : Int => some (zV x)) (by unfold entLen; (repeat' split) <;> omega), rfl⟩ rfl dX4_entryLength_60
  · refine y_tabIn C 6 h1 dX4_entryLength_1 (by decide) rfl (tgt := 63) (by decide) ?_
    refine lv_iconst (v := zI 0) C.1 C.2.1 dX4_entryLength_63 (by decide) ?_
    exact hret _ _ _ _ (zI 0) hS ⟨congrArg (fun x : Int => some (zV x)) (by unfold entLen; (repeat' split) <;> omega), rfl⟩ rfl dX4_entryLength_64
  · refine y_tabIn C 7 h1 dX4_entryLength_1 (by decide) rfl (tgt := 61) (by decide) ?_
    refine lv_iconst (v := zI 3) C.1 C.2.1 dX4_entryLength_61 (by decide) ?_
    exact hret _ _ _ _ (zI 3) hS ⟨congrArg (fun x : Int => some (zV x)) (by unfold entLen; (repeat' split) <;> omega), rfl⟩ rfl dX4_entryLength_62
  · refine y_tabIn C 8 h1 dX4_entryLength_1 (by decide) rfl (tgt := 63) (by decide) ?_
    refine lv_iconst (v := zI 0) C.1 C.2.1 dX4_entryLength_63 (by decide) ?_
    exact hret _ _ _ _ (zI 0) hS ⟨congrArg (fun x : Int => some (zV x)) (by unfold entLen; (repeat' split) <;> omega), rfl⟩ rfl dX4_entryLength_64
  · refine y_tabIn C 9 h1 dX4_entryLength_1 (by decide) rfl (tgt := 56) (by decide) ?_
    refine lv_iconst (v := zI 5) C.1 C.2.1 dX4_entryLength_56 (by decide) ?_
    exact hret _ _ _ _ (zI 5) hS ⟨congrArg (fun x : Int => some (zV x)) (by unfold entLen; (repeat' split) <;> omega), rfl⟩ rfl dX4_entryLength_57
  · refine y_tabIn C 10 h1 dX4_entryLength_1 (by decide) rfl (tgt := 56) (by decide) ?_
    refine lv_iconst (v := zI 5) C.1 C.2.1 dX4_entryLength_56 (by decide) ?_
    exact hret _ _ _ _ (zI 5) hS ⟨congrArg (fun x : Int => some (zV x)) (by unfold entLen; (repeat' split) <;> omega), rfl⟩ rfl dX4_entryLength_57
  · refine y_tabIn C 11 h1 dX4_entryLength_1 (by decide) rfl (tgt := 63) (by decide) ?_
    refine lv_iconst (v := zI 0) C.1 C.2.1 dX4_entryLength_63 (by decide) ?_
    exact hret _ _ _ _ (zI 0) hS ⟨congrArg (fun x : Int => some (zV x)) (by unfold entLen; (repeat' split) <;> omega), rfl⟩ rfl dX4_entryLength_64
  · refine y_tabIn C 12 h1 dX4_entryLength_1 (by decide) rfl (tgt := 56) (by decide) ?_
    refine lv_iconst (v := zI 5) C.1 C.2.1 dX4_entryLength_56 (by decide) ?_
    exact hret _ _ _ _ (zI 5) hS ⟨congrArg (fun x : Int => some (zV x)) (by unfold entLen; (repeat' split) <;> omega), rfl⟩ rfl dX4_entryLength_57
  · refine y_tabOut C h1 (by omega) dX4_entryLength_1 (tgt := 63) (by decide) ?_
    refine lv_iconst (v := zI 0) C.1 C.2.1 dX4_entryLength_63 (by decide) ?_
    exact hret _ _ _ _ (zI 0) hS ⟨congrArg (fun x : Int => some (zV x)) (by unfold entLen; (repeat' split) <;> omega), rfl⟩ rfl dX4_entryLength_64

theorem entLen_le (k : Nat) : entLen k ≤ 9 := by unfold entLen; (repeat' split) <;> omega

set_option maxHeartbeats 4000000 in
set_option maxRecDepth 20000 in
theorem c_X4_behindName (l : Launch) (Z : zT) {H : Heap} {ad : Nat → Nat} {τ : mS} {X : List (Nat × va_E)} (hM : isC Z H ad τ X) {F : Nat → Nat} {n : Nat} (hB : cSrc τ F n) {t en ru : Nat} (he1 : en = n) (hr1 : ru = 2) (hX : (t, stE ad en ru) ∈ X) {k : Nat} (hk : k ≤ n) : zM l Z yX4_behindName cX4_behindName 5 (some .int) (rmk 3) [.ref t, zN k] H (cA ad) 0 0 (fun v H' => rE Z H' ad τ X n (xName F n k) v) := by
  have hn := hB.2.2.2
  have hen : en ≤ 16000 := by omega
  refine zM.introI (own := RX4) ⟨by decide, rfl⟩ (Nat.le_of_ble_eq_true rfl) ?_
  intro p e s m args below meth c Q ls hH C hl hret
  have hS : va_S (cA ad) s.heap H [] := by rw [hH]; exact va_S.rf
  have hl : lv_has ls 5 [(0, .ref t), (1, zN k)] := hl
  refine lv_aload_n C.1 C.2.1 dX4_behindName_0 rfl (lv_at hl 0 rfl) ?_
  refine lv_iload_n C.1 C.2.1 dX4_behindName_1 rfl (lv_at hl 1 rfl) ?_
  refine lv_iconst (v := zI 3) C.1 C.2.1 dX4_behindName_2 (by decide) ?_
  refine z_callV C (As := [zN k, zN 3]) (rest := []) (c_X8_behind l Z hM hX k (by omega) 3 (by omega) hen) (hM.ex' hX) rfl ⟨⟨zw_10_0, zw_8_3, zw_10_22⟩, zd_X8_behind⟩ zw_9_22 zw_9_23 ⟨Nat.le_of_ble_eq_true rfl, Nat.le_of_ble_eq_true rfl⟩ ⟨rfl, rfl⟩ rfl hl.1 rfl (Nat.le_of_ble_eq_true rfl) dX4_behindName_3 ⟨Nat.zero_le _, Nat.zero_le _⟩ hS (fun _ h => h) (fun v H locs hp hS _ _ => ?_)
  obtain ⟨hp1, hp2⟩ := hp
  rcases Classical.em (0 ≤ (3 : Int) ∧ ((k : Nat) : Int) + 3 ≤ (en : Int)) with hc3 | hc3
  · obtain ⟨rfl, hM⟩ := hp1 hc3
    refine lv_iconst (v := zI (-1)) C.1 C.2.1 dX4_behindName_6 (by decide) ?_
    refine y_icmp_ne (tgt := 12) C (a := ((k + 3 : Nat) : Int)) (b := -1) dX4_behindName_7 (by decide) (by omega) (fun h7 => ?_) (fun h7 => ?_)
    · refine lv_aload_n C.1 C.2.1 dX4_behindName_12 rfl (lv_at hl 0 rfl) ?_
      refine z_get C (v := .ref (ad 1)) (hM.ex' hX) rfl bi_wsX80 0 (by decide) zw_9_4 rfl rfl dX4_behindName_13 ?_
      refine lv_iload_n C.1 C.2.1 dX4_behindName_16 rfl (lv_at hl 1 rfl) ?_
      refine lv_iconst (v := zI 1) C.1 C.2.1 dX4_behindName_17 (by decide) ?_
      refine y_iaddN C (a := k) (b := 1) dX4_behindName_18 ?_
      refine z_readV C (As := [zN (k + 1)]) (rest := []) (c_u2 l Z hM hB (k + 1) rfl (by omega)) hM.byt rfl ⟨⟨zw_10_5, zw_2_15, zw_10_6⟩, zd_X1_u2⟩ zw_10_3 zw_10_4 ⟨Nat.le_of_ble_eq_true rfl, Nat.le_of_ble_eq_true rfl⟩ ⟨rfl, rfl⟩ rfl hl.1 rfl (Nat.le_of_ble_eq_true rfl) dX4_behindName_19 ⟨Nat.zero_le _, Nat.zero_le _⟩ hS (fun locs hS => ?_)
      have := U2_lt hB.1 (k + 1)
      refine lv_istore_n (lv' := [(2, zN (U2 F (k + 1))), (0, .ref t), (1, zN k)]) C.1 C.2.1 dX4_behindName_22 rfl hl (by decide) rfl (fun ls hl => ?_)
      refine lv_iload_n C.1 C.2.1 dX4_behindName_23 rfl (lv_at hl 0 rfl) ?_
      refine lv_iconst (v := zI 1) C.1 C.2.1 dX4_behindName_24 (by decide) ?_
      refine y_icmp_lt (tgt := 34) C (a := ((U2 F (k + 1) : Nat) : Int)) (b := 1) dX4_behindName_25 (by decide) (by omega) (fun h25 => ?_) (fun h25 => ?_)
      · refine lv_aload_n C.1 C.2.1 dX4_behindName_34 rfl (lv_at hl 1 rfl) ?_
        refine z_get C (v := .ref (ad 15)) (hM.ex' hX) rfl bi_wsX80 1 (by decide) zw_9_3 rfl rfl dX4_behindName_35 ?_
        refine lv_iconst (v := zI 4) C.1 C.2.1 dX4_behindName_38 (by decide) ?_
        refine lv_iload_n C.1 C.2.1 dX4_behindName_39 rfl (lv_at hl 2 rfl) ?_
        refine z_callV C (As := [zN 4, zN k]) (rest := []) (c_X10_broken l Z hM (zI 4) (zI ((k : Nat) : Int))) hM.ver rfl ⟨⟨zw_9_8, zw_1_14, zw_9_5⟩, zd_X10_broken⟩ zw_9_6 zw_9_7 ⟨Nat.le_of_ble_eq_true rfl, Nat.le_of_ble_eq_true rfl⟩ ⟨rfl, rfl⟩ rfl hl.1 rfl (Nat.le_of_ble_eq_true rfl) dX4_behindName_40 ⟨Nat.zero_le _, Nat.zero_le _⟩ hS (fun _ h => h) (fun v H locs hp hS _ _ => ?_)
        obtain ⟨rfl, hM⟩ := hp
        exact hret _ _ _ _ (zI (-1)) hS (Or.inr ⟨_, _, (by unfold xName; rw [if_pos (by omega), if_neg (by omega)]), rfl, hM⟩) rfl dX4_behindName_43
      · refine lv_iload_n C.1 C.2.1 dX4_behindName_28 rfl (lv_at hl 0 rfl) ?_
        refine lv_bipush (v := zI 100) C.1 C.2.1 dX4_behindName_29 (by decide) ?_
        refine y_icmp_le (tgt := 44) C (a := ((U2 F (k + 1) : Nat) : Int)) (b := 100) dX4_behindName_31 (by decide) (by omega) (fun h31 => ?_) (fun h31 => ?_)
        · refine lv_iload_n C.1 C.2.1 dX4_behindName_44 rfl (lv_at hl 2 rfl) ?_
          refine lv_iconst (v := zI 3) C.1 C.2.1 dX4_behindName_45 (by decide) ?_
          refine y_iaddN C (a := k) (b := 3) dX4_behindName_46 ?_
          refine lv_iload_n C.1 C.2.1 dX4_behindName_47 rfl (lv_at hl 0 rfl) ?_
          refine y_iaddN C (a := k + 3) (b := U2 F (k + 1)) dX4_behindName_48 ?_
          refine lv_aload_n C.1 C.2.1 dX4_behindName_49 rfl (lv_at hl 1 rfl) ?_
          refine z_get C (v := zN en) (hM.ex' hX) rfl bi_wsX80 2 (by decide) zw_9_2 rfl rfl dX4_behindName_50 ?_
          refine va_mmin C.1 C.2.1 (C.2.2.1.trans hl.1.symm) C.2.2.2.1 (C.2.2.2.2.1 _ zw_11_2) (C.2.2.2.2.1 _ zw_11_3) (C.2.2.2.2.1 _ zw_3_16) (C.2.2.2.2.1 _ zw_11_4) (Nat.le_of_ble_eq_true rfl) (Nat.le_of_ble_eq_true rfl) (Nat.zero_le _) (Nat.zero_le _) dX4_behindName_53 ?_
          refine z_re (y := zI ((min ((k + 3) + (U2 F (k + 1))) en : Nat) : Int)) (zmin (by omega) (by omega)) ?_
          refine lv_istore_n (lv' := [(3, zN (min ((k + 3) + (U2 F (k + 1))) en)), (2, zN (U2 F (k + 1))), (0, .ref t), (1, zN k)]) C.1 C.2.1 dX4_behindName_56 rfl hl (by decide) rfl (fun ls hl => ?_)
          refine lv_iload_n C.1 C.2.1 dX4_behindName_57 rfl (lv_at hl 3 rfl) ?_
          refine lv_iconst (v := zI 3) C.1 C.2.1 dX4_behindName_58 (by decide) ?_
          refine y_iaddN C (a := k) (b := 3) dX4_behindName_59 ?_
          refine lv_istore (lv' := [(4, zN (k + 3)), (3, zN (min ((k + 3) + (U2 F (k + 1))) en)), (2, zN (U2 F (k + 1))), (0, .ref t), (1, zN k)]) C.1 C.2.1 dX4_behindName_60 hl (by decide) rfl (fun ls hl => ?_)
          have loop : ∀ (fu : Nat) (i : Nat) (H : Heap) (ls : Array Slot) (locs : List Loc), va_S (cA ad) s.heap H locs → isC Z H ad τ X → (k + 3 ≤ i ∧ i ≤ min (k + 3 + U2 F (k + 1)) en) → (min (k + 3 + U2 F (k + 1)) en < i + fu) → (xLet F n k (k + 3 + U2 F (k + 1) - i) i = xLet F n k (U2 F (k + 1)) (k + 3)) → lv_has ls 5 [(4, zN i), (3, zN (min (k + 3 + U2 F (k + 1)) en)), (2, zN (U2 F (k + 1))), (0, .ref t), (1, zN k)] → W p l e (rmk 3) s m args below meth c H locs 0 0 Q (F0 m 62 ls []) := by
            intro fu
            induction fu with
            | zero =>
              intro i H ls locs hS hM hi hf he hl
              (exact absurd hf (by omega))
            | succ fu ih_loop =>
              intro i H ls locs hS hM hi hf he hl
              refine lv_iload C.1 C.2.1 dX4_behindName_62 (lv_at hl 0 rfl) ?_
              refine lv_iload_n C.1 C.2.1 dX4_behindName_64 rfl (lv_at hl 1 rfl) ?_
              refine y_icmp_ge (tgt := 112) C (a := ((i : Nat) : Int)) (b := ((min (k + 3 + U2 F (k + 1)) en : Nat) : Int)) dX4_behindName_65 (by decide) (by omega) (fun h65 => ?_) (fun h65 => ?_)
              · refine lv_aload_n C.1 C.2.1 dX4_behindName_112 rfl (lv_at hl 3 rfl) ?_
                refine lv_iload_n C.1 C.2.1 dX4_behindName_113 rfl (lv_at hl 4 rfl) ?_
                refine lv_iconst (v := zI 3) C.1 C.2.1 dX4_behindName_114 (by decide) ?_
                refine lv_iload_n C.1 C.2.1 dX4_behindName_115 rfl (lv_at hl 2 rfl) ?_
                refine y_iaddN C (a := 3) (b := U2 F (k + 1)) dX4_behindName_116 ?_
                refine z_callV C (As := [zN k, zN (3 + (U2 F (k + 1)))]) (rest := []) (c_X8_behind l Z hM hX k (by omega) ((3 + (U2 F (k + 1)) : Nat) : Int) (by omega) hen) (hM.ex' hX) rfl ⟨⟨zw_10_0, zw_8_3, zw_10_22⟩, zd_X8_behind⟩ zw_9_22 zw_9_23 ⟨Nat.le_of_ble_eq_true rfl, Nat.le_of_ble_eq_true rfl⟩ ⟨rfl, rfl⟩ rfl hl.1 rfl (Nat.le_of_ble_eq_true rfl) dX4_behindName_117 ⟨Nat.zero_le _, Nat.zero_le _⟩ hS (fun _ h => h) (fun v H locs hp hS _ _ => ?_)
                obtain ⟨hp1, hp2⟩ := hp
                rcases Classical.em (0 ≤ (((3 + (U2 F (k + 1)) : Nat) : Int) : Int) ∧ ((k : Nat) : Int) + ((3 + (U2 F (k + 1)) : Nat) : Int) ≤ (en : Int)) with hc117 | hc117
                · obtain ⟨rfl, hM⟩ := hp1 hc117
                  exact hret _ _ _ _ (zI ((k + (3 + (U2 F (k + 1))) : Nat) : Int)) hS (Or.inl ⟨_, (by unfold xName; rw [if_pos (by omega), if_pos (by omega), ← he, show k + 3 + U2 F (k + 1) - i = 0 by omega, show i = k + (3 + U2 F (k + 1)) by omega]; rfl), rfl, hM, (by omega)⟩) rfl dX4_behindName_120
                · obtain ⟨rfl, hM⟩ := hp2 hc117
                  exact hret _ _ _ _ (zI (-1)) hS (Or.inr ⟨_, _, (by unfold xName; rw [if_pos (by omega), if_pos (by omega), ← he, show k + 3 + U2 F (k + 1) - i = (k + 3 + U2 F (k + 1) - (i + 1)) + 1 by omega]; unfold xLet; rw [if_neg (by omega), he1, hr1]), rfl, hM⟩) rfl dX4_behindName_120
              · refine lv_aload_n C.1 C.2.1 dX4_behindName_68 rfl (lv_at hl 3 rfl) ?_
                refine z_get C (v := .ref (ad 1)) (hM.ex' hX) rfl bi_wsX80 0 (by decide) zw_9_4 rfl rfl dX4_behindName_69 ?_
                refine lv_iload C.1 C.2.1 dX4_behindName_72 (lv_at hl 0 rfl) ?_
                refine z_readV C (As := [zN i]) (rest := []) (c_u1 l Z hM hB i rfl (by omega)) hM.byt rfl ⟨⟨zw_9_12, zw_2_15, zw_9_9⟩, zd_X1_u1⟩ zw_9_10 zw_9_11 ⟨Nat.le_of_ble_eq_true rfl, Nat.le_of_ble_eq_true rfl⟩ ⟨rfl, rfl⟩ rfl hl.1 rfl (Nat.le_of_ble_eq_true rfl) dX4_behindName_74 ⟨Nat.zero_le _, Nat.zero_le _⟩ hS (fun locs hS => ?_)
                have := hB.1 i
                refine lv_bipush (v := zI 33) C.1 C.2.1 dX4_behindName_77 (by decide) ?_
                refine y_icmp_lt (tgt := 96) C (a := ((F i : Nat) : Int)) (b := 33) dX4_behindName_79 (by decide) (by omega) (fun h79 => ?_) (fun h79 => ?_)
                · refine lv_aload_n C.1 C.2.1 dX4_behindName_96 rfl (lv_at hl 3 rfl) ?_
                  refine z_get C (v := .ref (ad 15)) (hM.ex' hX) rfl bi_wsX80 1 (by decide) zw_9_3 rfl rfl dX4_behindName_97 ?_
                  refine lv_iconst (v := zI 4) C.1 C.2.1 dX4_behindName_100 (by decide) ?_
                  refine lv_iload_n C.1 C.2.1 dX4_behindName_101 rfl (lv_at hl 4 rfl) ?_
                  refine z_callV C (As := [zN 4, zN k]) (rest := []) (c_X10_broken l Z hM (zI 4) (zI ((k : Nat) : Int))) hM.ver rfl ⟨⟨zw_9_8, zw_1_14, zw_9_5⟩, zd_X10_broken⟩ zw_9_6 zw_9_7 ⟨Nat.le_of_ble_eq_true rfl, Nat.le_of_ble_eq_true rfl⟩ ⟨rfl, rfl⟩ rfl hl.1 rfl (Nat.le_of_ble_eq_true rfl) dX4_behindName_102 ⟨Nat.zero_le _, Nat.zero_le _⟩ hS (fun _ h => h) (fun v H locs hp hS _ _ => ?_)
                  obtain ⟨rfl, hM⟩ := hp
                  exact hret _ _ _ _ (zI (-1)) hS (Or.inr ⟨_, _, (by unfold xName; rw [if_pos (by omega), if_pos (by omega), ← he, show k + 3 + U2 F (k + 1) - i = (k + 3 + U2 F (k + 1) - (i + 1)) + 1 by omega]; unfold xLet; rw [if_pos (by omega), if_neg (by omega)]), rfl, hM⟩) rfl dX4_behindName_105
                · refine lv_aload_n C.1 C.2.1 dX4_behindName_82 rfl (lv_at hl 3 rfl) ?_
                  refine z_get C (v := .ref (ad 1)) (hM.ex' hX) rfl bi_wsX80 0 (by decide) zw_9_4 rfl rfl dX4_behindName_83 ?_
                  refine lv_iload C.1 C.2.1 dX4_behindName_86 (lv_at hl 0 rfl) ?_
                  refine z_readV C (As := [zN i]) (rest := []) (c_u1 l Z hM hB i rfl (by omega)) hM.byt rfl ⟨⟨zw_9_12, zw_2_15, zw_9_9⟩, zd_X1_u1⟩ zw_9_10 zw_9_11 ⟨Nat.le_of_ble_eq_true rfl, Nat.le_of_ble_eq_true rfl⟩ ⟨rfl, rfl⟩ rfl hl.1 rfl (Nat.le_of_ble_eq_true rfl) dX4_behindName_88 ⟨Nat.zero_le _, Nat.zero_le _⟩ hS (fun locs hS => ?_)
                  have := hB.1 i
                  refine lv_bipush (v := zI 126) C.1 C.2.1 dX4_behindName_91 (by decide) ?_
                  refine y_icmp_le (tgt := 106) C (a := ((F i : Nat) : Int)) (b := 126) dX4_behindName_93 (by decide) (by omega) (fun h93 => ?_) (fun h93 => ?_)
                  · refine lv_iinc (v := zI ((i + 1 : Nat) : Int)) (lv' := [(4, zN (i + 1)), (3, zN (min (k + 3 + U2 F (k + 1)) en)), (2, zN (U2 F (k + 1))), (0, .ref t), (1, zN k)]) C.1 C.2.1 dX4_behindName_106 hl (k := 0) rfl (zI_add _ _) (by decide) rfl (fun ls hl => ?_)
                    refine lv_goto (tgt := 62) C.1 C.2.1 dX4_behindName_109 (by decide) ?_
                    exact ih_loop (i + 1) _ ls _ hS hM (by omega) (by omega) (by rw [← he, show k + 3 + U2 F (k + 1) - i = (k + 3 + U2 F (k + 1) - (i + 1)) + 1 by omega]; conv => rhs; unfold xLet; rw [if_pos (by omega), if_pos (by omega)]) hl
                  · refine lv_aload_n C.1 C.2.1 dX4_behindName_96 rfl (lv_at hl 3 rfl) ?_
                    refine z_get C (v := .ref (ad 15)) (hM.ex' hX) rfl bi_wsX80 1 (by decide) zw_9_3 rfl rfl dX4_behindName_97 ?_
                    refine lv_iconst (v := zI 4) C.1 C.2.1 dX4_behindName_100 (by decide) ?_
                    refine lv_iload_n C.1 C.2.1 dX4_behindName_101 rfl (lv_at hl 4 rfl) ?_
                    refine z_callV C (As := [zN 4, zN k]) (rest := []) (c_X10_broken l Z hM (zI 4) (zI ((k : Nat) : Int))) hM.ver rfl ⟨⟨zw_9_8, zw_1_14, zw_9_5⟩, zd_X10_broken⟩ zw_9_6 zw_9_7 ⟨Nat.le_of_ble_eq_true rfl, Nat.le_of_ble_eq_true rfl⟩ ⟨rfl, rfl⟩ rfl hl.1 rfl (Nat.le_of_ble_eq_true rfl) dX4_behindName_102 ⟨Nat.zero_le _, Nat.zero_le _⟩ hS (fun _ h => h) (fun v H locs hp hS _ _ => ?_)
                    obtain ⟨rfl, hM⟩ := hp
                    exact hret _ _ _ _ (zI (-1)) hS (Or.inr ⟨_, _, (by unfold xName; rw [if_pos (by omega), if_pos (by omega), ← he, show k + 3 + U2 F (k + 1) - i = (k + 3 + U2 F (k + 1) - (i + 1)) + 1 by omega]; unfold xLet; rw [if_pos (by omega), if_neg (by omega)]), rfl, hM⟩) rfl dX4_behindName_105
          exact loop (min (k + 3 + U2 F (k + 1)) en + 1) (k + 3) _ ls _ hS hM (by omega) (by omega) (by rw [Nat.add_sub_cancel_left]) hl
        · refine lv_aload_n C.1 C.2.1 dX4_behindName_34 rfl (lv_at hl 1 rfl) ?_
          refine z_get C (v := .ref (ad 15)) (hM.ex' hX) rfl bi_wsX80 1 (by decide) zw_9_3 rfl rfl dX4_behindName_35 ?_
          refine lv_iconst (v := zI 4) C.1 C.2.1 dX4_behindName_38 (by decide) ?_
          refine lv_iload_n C.1 C.2.1 dX4_behindName_39 rfl (lv_at hl 2 rfl) ?_
          refine z_callV C (As := [zN 4, zN k]) (rest := []) (c_X10_broken l Z hM (zI 4) (zI ((k : Nat) : Int))) hM.ver rfl ⟨⟨zw_9_8, zw_1_14, zw_9_5⟩, zd_X10_broken⟩ zw_9_6 zw_9_7 ⟨Nat.le_of_ble_eq_true rfl, Nat.le_of_ble_eq_true rfl⟩ ⟨rfl, rfl⟩ rfl hl.1 rfl (Nat.le_of_ble_eq_true rfl) dX4_behindName_40 ⟨Nat.zero_le _, Nat.zero_le _⟩ hS (fun _ h => h) (fun v H locs hp hS _ _ => ?_)
          obtain ⟨rfl, hM⟩ := hp
          exact hret _ _ _ _ (zI (-1)) hS (Or.inr ⟨_, _, (by unfold xName; rw [if_pos (by omega), if_neg (by omega)]), rfl, hM⟩) rfl dX4_behindName_43
    · exact False.elim (by first | omega | exact h7 rfl)
  · obtain ⟨rfl, hM⟩ := hp2 hc3
    refine lv_iconst (v := zI (-1)) C.1 C.2.1 dX4_behindName_6 (by decide) ?_
    refine y_icmp_ne (tgt := 12) C (a := -1) (b := -1) dX4_behindName_7 (by decide) (by omega) (fun h7 => ?_) (fun h7 => ?_)
    · exact False.elim (by first | omega | exact h7 rfl)
    · refine lv_iconst (v := zI (-1)) C.1 C.2.1 dX4_behindName_10 (by decide) ?_
      exact hret _ _ _ _ (zI (-1)) hS (Or.inr ⟨_, _, (by unfold xName; rw [if_neg (by omega), he1, hr1]), rfl, hM⟩) rfl dX4_behindName_11

set_option maxHeartbeats 4000000 in
set_option maxRecDepth 20000 in
theorem c_X4_behindEntry (l : Launch) (Z : zT) {H : Heap} {ad : Nat → Nat} {τ : mS} {X : List (Nat × va_E)} (hM : isC Z H ad τ X) {F : Nat → Nat} {n : Nat} (hB : cSrc τ F n) {t en ru : Nat} (he1 : en = n) (hr1 : ru = 2) (hX : (t, stE ad en ru) ∈ X) {k : Nat} (hk : k ≤ n) : zM l Z yX4_behindEntry cX4_behindEntry 4 (some .int) (rmk 4) [.ref t, zN k] H (cA ad) 0 0 (fun v H' => rE Z H' ad τ X n (xEnt F n k) v) := by
  have hn := hB.2.2.2
  have hen : en ≤ 16000 := by omega
  refine zM.introI (own := RX4) ⟨by decide, rfl⟩ (Nat.le_of_ble_eq_true rfl) ?_
  intro p e s m args below meth c Q ls hH C hl hret
  have hS : va_S (cA ad) s.heap H [] := by rw [hH]; exact va_S.rf
  have hl : lv_has ls 4 [(0, .ref t), (1, zN k)] := hl
  refine lv_aload_n C.1 C.2.1 dX4_behindEntry_0 rfl (lv_at hl 0 rfl) ?_
  refine lv_iload_n C.1 C.2.1 dX4_behindEntry_1 rfl (lv_at hl 1 rfl) ?_
  refine lv_iconst (v := zI 1) C.1 C.2.1 dX4_behindEntry_2 (by decide) ?_
  refine z_callV C (As := [zN k, zN 1]) (rest := []) (c_X8_behind l Z hM hX k (by omega) 1 (by omega) hen) (hM.ex' hX) rfl ⟨⟨zw_10_0, zw_8_3, zw_10_22⟩, zd_X8_behind⟩ zw_9_22 zw_9_23 ⟨Nat.le_of_ble_eq_true rfl, Nat.le_of_ble_eq_true rfl⟩ ⟨rfl, rfl⟩ rfl hl.1 rfl (Nat.le_of_ble_eq_true rfl) dX4_behindEntry_3 ⟨Nat.zero_le _, Nat.zero_le _⟩ hS (fun _ h => h) (fun v H locs hp hS _ _ => ?_)
  obtain ⟨hp1, hp2⟩ := hp
  rcases Classical.em (0 ≤ (1 : Int) ∧ ((k : Nat) : Int) + 1 ≤ (en : Int)) with hc3 | hc3
  · obtain ⟨rfl, hM⟩ := hp1 hc3
    refine lv_iconst (v := zI (-1)) C.1 C.2.1 dX4_behindEntry_6 (by decide) ?_
    refine y_icmp_ne (tgt := 12) C (a := ((k + 1 : Nat) : Int)) (b := -1) dX4_behindEntry_7 (by decide) (by omega) (fun h7 => ?_) (fun h7 => ?_)
    · refine lv_aload_n C.1 C.2.1 dX4_behindEntry_12 rfl (lv_at hl 0 rfl) ?_
      refine z_get C (v := .ref (ad 1)) (hM.ex' hX) rfl bi_wsX80 0 (by decide) zw_9_4 rfl rfl dX4_behindEntry_13 ?_
      refine lv_iload_n C.1 C.2.1 dX4_behindEntry_16 rfl (lv_at hl 1 rfl) ?_
      refine z_readV C (As := [zN k]) (rest := []) (c_u1 l Z hM hB k rfl (by omega)) hM.byt rfl ⟨⟨zw_9_12, zw_2_15, zw_9_9⟩, zd_X1_u1⟩ zw_9_10 zw_9_11 ⟨Nat.le_of_ble_eq_true rfl, Nat.le_of_ble_eq_true rfl⟩ ⟨rfl, rfl⟩ rfl hl.1 rfl (Nat.le_of_ble_eq_true rfl) dX4_behindEntry_17 ⟨Nat.zero_le _, Nat.zero_le _⟩ hS (fun locs hS => ?_)
      have := hB.1 k
      refine lv_istore_n (lv' := [(2, zN (F k)), (0, .ref t), (1, zN k)]) C.1 C.2.1 dX4_behindEntry_20 rfl hl (by decide) rfl (fun ls hl => ?_)
      refine lv_iload_n C.1 C.2.1 dX4_behindEntry_21 rfl (lv_at hl 0 rfl) ?_
      refine lv_iconst (v := zI 1) C.1 C.2.1 dX4_behindEntry_22 (by decide) ?_
      refine y_icmp_ne (tgt := 32) C (a := ((F k : Nat) : Int)) (b := 1) dX4_behindEntry_23 (by decide) (by omega) (fun h23 => ?_) (fun h23 => ?_)
      · refine lv_iload_n C.1 C.2.1 dX4_behindEntry_32 rfl (lv_at hl 0 rfl) ?_
        refine z_readS C (As := [zN (F k)]) (rest := []) (c_X4_entryLength l Z (F k) (by omega)) ⟨⟨zw_11_7, zw_7_23, zw_11_5⟩, zd_X4_entryLength⟩ zw_11_6 ⟨Nat.le_of_ble_eq_true rfl, Nat.le_of_ble_eq_true rfl⟩ ⟨rfl, rfl⟩ rfl hl.1 rfl (Nat.le_of_ble_eq_true rfl) dX4_behindEntry_33 ⟨Nat.zero_le _, Nat.zero_le _⟩ hS (fun locs hS => ?_)
        have hel := entLen_le (F k)
        refine lv_istore_n (lv' := [(3, zN (entLen (F k))), (2, zN (F k)), (0, .ref t), (1, zN k)]) C.1 C.2.1 dX4_behindEntry_36 rfl hl (by decide) rfl (fun ls hl => ?_)
        refine lv_iload_n C.1 C.2.1 dX4_behindEntry_37 rfl (lv_at hl 0 rfl) ?_
        refine y_if_ne (tgt := 53) C (a := ((entLen (F k) : Nat) : Int)) dX4_behindEntry_38 (by decide) (by omega) (fun h38 => ?_) (fun h38 => ?_)
        · refine lv_aload_n C.1 C.2.1 dX4_behindEntry_53 rfl (lv_at hl 2 rfl) ?_
          refine lv_iload_n C.1 C.2.1 dX4_behindEntry_54 rfl (lv_at hl 3 rfl) ?_
          refine lv_iload_n C.1 C.2.1 dX4_behindEntry_55 rfl (lv_at hl 0 rfl) ?_
          refine z_callV C (As := [zN k, zN (entLen (F k))]) (rest := []) (c_X8_behind l Z hM hX k (by omega) ((entLen (F k) : Nat) : Int) (by omega) hen) (hM.ex' hX) rfl ⟨⟨zw_10_0, zw_8_3, zw_10_22⟩, zd_X8_behind⟩ zw_9_22 zw_9_23 ⟨Nat.le_of_ble_eq_true rfl, Nat.le_of_ble_eq_true rfl⟩ ⟨rfl, rfl⟩ rfl hl.1 rfl (Nat.le_of_ble_eq_true rfl) dX4_behindEntry_56 ⟨Nat.zero_le _, Nat.zero_le _⟩ hS (fun _ h => h) (fun v H locs hp hS _ _ => ?_)
          obtain ⟨hp1, hp2⟩ := hp
          rcases Classical.em (0 ≤ (((entLen (F k) : Nat) : Int) : Int) ∧ ((k : Nat) : Int) + ((entLen (F k) : Nat) : Int) ≤ (en : Int)) with hc56 | hc56
          · obtain ⟨rfl, hM⟩ := hp1 hc56
            exact hret _ _ _ _ (zI ((k + (entLen (F k)) : Nat) : Int)) hS (Or.inl ⟨_, (by unfold xEnt; rw [if_pos (by omega), if_neg (by omega), if_neg (by omega), if_pos (by omega)]), rfl, hM, (by omega)⟩) rfl dX4_behindEntry_59
          · obtain ⟨rfl, hM⟩ := hp2 hc56
            exact hret _ _ _ _ (zI (-1)) hS (Or.inr ⟨_, _, (by unfold xEnt; rw [if_pos (by omega), if_neg (by omega), if_neg (by omega), if_neg (by omega), he1, hr1]), rfl, hM⟩) rfl dX4_behindEntry_59
        · refine lv_aload_n C.1 C.2.1 dX4_behindEntry_41 rfl (lv_at hl 2 rfl) ?_
          refine z_get C (v := .ref (ad 15)) (hM.ex' hX) rfl bi_wsX80 1 (by decide) zw_9_3 rfl rfl dX4_behindEntry_42 ?_
          refine lv_iconst (v := zI 3) C.1 C.2.1 dX4_behindEntry_45 (by decide) ?_
          refine lv_iload_n C.1 C.2.1 dX4_behindEntry_46 rfl (lv_at hl 3 rfl) ?_
          refine z_callV C (As := [zN 3, zN k]) (rest := []) (c_X10_broken l Z hM (zI 3) (zI ((k : Nat) : Int))) hM.ver rfl ⟨⟨zw_9_8, zw_1_14, zw_9_5⟩, zd_X10_broken⟩ zw_9_6 zw_9_7 ⟨Nat.le_of_ble_eq_true rfl, Nat.le_of_ble_eq_true rfl⟩ ⟨rfl, rfl⟩ rfl hl.1 rfl (Nat.le_of_ble_eq_true rfl) dX4_behindEntry_47 ⟨Nat.zero_le _, Nat.zero_le _⟩ hS (fun _ h => h) (fun v H locs hp hS _ _ => ?_)
          obtain ⟨rfl, hM⟩ := hp
          refine lv_goto (tgt := 59) C.1 C.2.1 dX4_behindEntry_50 (by decide) ?_
          exact hret _ _ _ _ (zI (-1)) hS (Or.inr ⟨_, _, (by unfold xEnt; rw [if_pos (by omega), if_neg (by omega), if_pos (by omega)]), rfl, hM⟩) rfl dX4_behindEntry_59
      · refine lv_aload_n C.1 C.2.1 dX4_behindEntry_26 rfl (lv_at hl 1 rfl) ?_
        refine lv_iload_n C.1 C.2.1 dX4_behindEntry_27 rfl (lv_at hl 2 rfl) ?_
        refine z_callS C (As := [.ref t, zN k]) (rest := []) (c_X4_behindName l Z hM hB he1 hr1 hX (k := k) (by omega)) ⟨⟨zw_11_1, zw_7_23, zw_10_23⟩, zd_X4_behindName⟩ zw_11_0 ⟨Nat.le_of_ble_eq_true rfl, Nat.le_of_ble_eq_true rfl⟩ ⟨rfl, rfl⟩ rfl hl.1 rfl (Nat.le_of_ble_eq_true rfl) dX4_behindEntry_28 ⟨Nat.zero_le _, Nat.zero_le _⟩ hS (fun _ h => h) (fun v H locs hp hS _ _ => ?_)
        rcases hp with ⟨q28, e28, rfl, hM, hb28⟩ | ⟨r28, w28, e28, rfl, hM⟩
        · skip
          exact hret _ _ _ _ (zI ((q28 : Nat) : Int)) hS (Or.inl ⟨_, (by unfold xEnt; rw [if_pos (by omega), if_pos (by omega)]; exact e28), rfl, hM, (by omega)⟩) rfl dX4_behindEntry_31
        · skip
          exact hret _ _ _ _ (zI (-1)) hS (Or.inr ⟨_, _, (by unfold xEnt; rw [if_pos (by omega), if_pos (by omega)]; exact e28), rfl, hM⟩) rfl dX4_behindEntry_31
    · exact False.elim (by first | omega | exact h7 rfl)
  · obtain ⟨rfl, hM⟩ := hp2 hc3
    refine lv_iconst (v := zI (-1)) C.1 C.2.1 dX4_behindEntry_6 (by decide) ?_
    refine y_icmp_ne (tgt := 12) C (a := -1) (b := -1) dX4_behindEntry_7 (by decide) (by omega) (fun h7 => ?_) (fun h7 => ?_)
    · exact False.elim (by first | omega | exact h7 rfl)
    · refine lv_iconst (v := zI (-1)) C.1 C.2.1 dX4_behindEntry_10 (by decide) ?_
      exact hret _ _ _ _ (zI (-1)) hS (Or.inr ⟨_, _, (by unfold xEnt; rw [if_neg (by omega), he1, hr1]), rfl, hM⟩) rfl dX4_behindEntry_11
