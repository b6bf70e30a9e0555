/-! the component: its own methods that write -/
abbrev rF (v a b : Nat) (kn fd : Int) : List Value := [.ref v, .ref a, .ref b, zV kn, zV fd]
/-- the latest image's state, with the verdict that both images share -/
def vv (τA τB : mS) : mS := sx (sx τB 8 (τA.1 8)) 9 (τA.1 9)
def rA (o : Nat) (ad adB : Nat → Nat) (h0 : Nat) : Nat → Prop := fun q => q = o ∨ cA ad q ∨ cA adB q ∨ h0 ≤ q
/-- the two images stand apart but for the verdict; the root stands apart from both -/
def apt (o : Nat) (ad adB : Nat → Nat) : Prop := ad 15 = adB 15 ∧ (∀ i, i < 40 → ad i ≠ o) ∧ (∀ i, i < 40 → adB i ≠ o) ∧ ∀ i j, i < 40 → j < 40 → j ≠ 15 → ad i ≠ adB j
theorem apt.sw {o : Nat} {ad adB : Nat → Nat} {Z : zT} {H : Heap} {τ τ' : mS} {X : List (Nat × va_E)} (h : apt o ad adB) (hA : isC Z H ad τ X) (hB : isC Z H adB τ' X) : apt o adB ad := by
  refine ⟨h.1.symm, h.2.2.1, h.2.1, fun i j hi hj hne z => ?_⟩
  by_cases e : i = 15
  · subst e
    rw [← h.1] at z
    exact hA.inj (by omega) hj (Ne.symm hne) z
  · exact h.2.2.2 j i hj hi e z.symm
theorem vstep {Z : zT} {H H' : Heap} {ad adB : Nat → Nat} {τA τA' τB : mS} {A : Nat → Prop} {o : Nat} (hB : isC Z H adB (vv τA τB) []) (hA' : isC Z H' ad τA' []) (ha : apt o ad adB) (hk : ∀ q, q < H.size → ¬ A q → H'[q]? = H[q]?) (hf : ∀ j, j < 40 → j ≠ 15 → ¬ A (adB j)) : isC Z H' adB (vv τA' τB) [] := by
  have K : ∀ j, j < 40 → j ≠ 15 → H'[adB j]? = H[adB j]? := fun j hj e => hk _ (hB.lt hj) (hf j hj e)
  refine ⟨(hB.img).kept (K 0 (by omega) (by omega)), (hB.byt).kept (K 1 (by omega) (by omega)), (hB.row0).kept (K 2 (by omega) (by omega)), (hB.pol).kept (K 3 (by omega) (by omega)), fun k hk' => (hB.row k hk').kept (K k (by have := cIdx_lt hk'; omega) (by have := cIdx_lt hk'; omega)), (hB.bds).kept (K 13 (by omega) (by omega)), ?_, fun m hm => (hB.bod m hm).kept (K _ (by omega) (by omega)), hB.2.2.2.2.2.2.2.2.1, fun q hq => absurd hq (List.not_mem_nil)⟩
  rw [← ha.1]
  exact hA'.ver

set_option maxHeartbeats 4000000 in
set_option maxRecDepth 20000 in
theorem c_X11_end (l : Launch) (Z : zT) {H : Heap} {ad : Nat → Nat} {τ : mS} (hM : isC Z H ad τ []) {o b : Nat} {kn fd : Int} (hR : zAt Z H o (.inr (7, rF (ad 15) (ad 0) b kn fd))) (hO : ∀ i, i < 40 → ad i ≠ o) {t : Nat} (hx0 : τ.1 0 = zI (t : Int)) (ht : t ≤ 16000) (x : Int) (hx : -2147483648 ≤ x ∧ x ≤ 2147483647) : zM l Z yX11_end cX11_end 2 (some .boolean) (rmk 1) [.ref o, zV x] H (fun q => q = o ∨ cA ad q) 0 0 (fun v H' => ((0 ≤ x ∧ x ≤ (t : Int)) → v = some (zV 1) ∧ isC Z H' ad (sx τ 0 (zI x)) [] ∧ zAt Z H' o (.inr (7, rF (ad 15) (ad 0) b kn fd))) ∧ (¬ (0 ≤ x ∧ x ≤ (t : Int)) → v = some (zV 0) ∧ isC Z H' ad τ [] ∧ zAt Z H' o (.inr (7, rF (ad 15) (ad 0) b kn fd)))) := by
  refine zM.introI (own := RX11) ⟨by decide, rfl⟩ (Nat.le_of_ble_eq_true rfl) ?_
  intro p e s m args below meth c Q ls hH C hl hret
  have hS : va_S (fun q => q = o ∨ cA ad q) s.heap H [] := by rw [hH]; exact va_S.rf
  have hl : lv_has ls 2 [(0, .ref o), (1, zV x)] := hl
  refine lv_iload_n C.1 C.2.1 dX11_end_0 rfl (lv_at hl 1 rfl) ?_
  refine y_if_lt (tgt := 18) C (a := x) dX11_end_1 (by decide) (by omega) (fun h1 => ?_) (fun h1 => ?_)
  · refine lv_iconst (v := zI 0) C.1 C.2.1 dX11_end_18 (by decide) ?_
    exact hret _ _ _ _ (zI 0) hS ⟨fun z => absurd z (by omega), fun _ => ⟨rfl, hM, hR⟩⟩ rfl dX11_end_19
  · refine lv_iload_n C.1 C.2.1 dX11_end_4 rfl (lv_at hl 1 rfl) ?_
    refine lv_aload_n C.1 C.2.1 dX11_end_5 rfl (lv_at hl 0 rfl) ?_
    refine z_get C (v := .ref (ad 0)) hR rfl bi_wsX110 1 (by decide) zw_1_19 rfl rfl dX11_end_6 ?_
    refine z_get C (v := .ref (ad 1)) hM.img rfl bi_wsX20 0 (by decide) zw_6_9 rfl rfl dX11_end_9 ?_
    refine z_get C (v := .int (τ.1 0)) hM.byt rfl bi_wsX10 1 (by decide) zw_6_10 rfl rfl dX11_end_12 ?_
    refine z_re (y := zI ((t : Nat) : Int)) hx0 ?_
    refine y_icmp_le (tgt := 20) C (a := x) (b := ((t : Nat) : Int)) dX11_end_15 (by decide) (by omega) (fun h15 => ?_) (fun h15 => ?_)
    · refine lv_aload_n C.1 C.2.1 dX11_end_20 rfl (lv_at hl 0 rfl) ?_
      refine z_get C (v := .ref (ad 0)) hR rfl bi_wsX110 1 (by decide) zw_1_19 rfl rfl dX11_end_21 ?_
      refine z_get C (v := .ref (ad 1)) hM.img rfl bi_wsX20 0 (by decide) zw_6_9 rfl rfl dX11_end_24 ?_
      refine lv_iload_n C.1 C.2.1 dX11_end_27 rfl (lv_at hl 1 rfl) ?_
      refine z_put C (v := zV x) tyX1 hM.byt rfl bi_wsX10 tyX1_ok nmX1 1 (by decide) zw_6_10 rfl rfl rfl rfl (Nat.le_of_ble_eq_true rfl) hS (Or.inr (cA.k 1 (by decide))) dX11_end_28 (fun H locs hu hn hS => ?_)
      have hM := hM.sx0 hu hn
      have hR := hu.at hR (Ne.symm (hO 1 (by decide)))
      refine lv_iconst (v := zI 1) C.1 C.2.1 dX11_end_31 (by decide) ?_
      exact hret _ _ _ _ (zI 1) hS ⟨fun _ => ⟨rfl, hM, hR⟩, fun z => absurd (And.intro (by omega) (by omega)) z⟩ rfl dX11_end_32
    · refine lv_iconst (v := zI 0) C.1 C.2.1 dX11_end_18 (by decide) ?_
      exact hret _ _ _ _ (zI 0) hS ⟨fun z => absurd z (by omega), fun _ => ⟨rfl, hM, hR⟩⟩ rfl dX11_end_19

set_option maxHeartbeats 4000000 in
set_option maxRecDepth 20000 in
theorem c_X11_feed (l : Launch) (Z : zT) {H : Heap} {ad : Nat → Nat} {τ : mS} (hM : isC Z H ad τ []) {o b : Nat} {kn : Int} {fd : Nat} (hR : zAt Z H o (.inr (7, rF (ad 15) (ad 0) b kn (fd : Int)))) (hO : ∀ i, i < 40 → ad i ≠ o) {t : Nat} (hx0 : τ.1 0 = zI (t : Int)) (ht : t ≤ 16000) (hfd : fd ≤ 65536) (x1 x2 x3 x4 x5 : Int32) : zM l Z yX11_feed cX11_feed 6 (some .int) (rmk 3) [.ref o, .int x1, .int x2, .int x3, .int x4, .int x5] H (fun q => q = o ∨ cA ad q) 0 0 (fun v H' => ((t + 20 ≤ 16000 ∧ fd + 20 ≤ 65536) → v = some (zN (t + 20)) ∧ ∃ τ' : mS, isC Z H' ad τ' [] ∧ mTc τ τ' t 20 (fb x1 x2 x3 x4 x5) ∧ zAt Z H' o (.inr (7, rF (ad 15) (ad 0) b kn ((fd + 20 : Nat) : Int)))) ∧ (¬ (t + 20 ≤ 16000 ∧ fd + 20 ≤ 65536) → v = some (zV (-1)) ∧ isC Z H' ad τ [] ∧ zAt Z H' o (.inr (7, rF (ad 15) (ad 0) b kn (fd : Int))))) := by
  refine zM.introI (own := RX11) ⟨by decide, rfl⟩ (Nat.le_of_ble_eq_true rfl) ?_
  intro p e s m args below meth c Q ls hH C hl hret
  have hS : va_S (fun q => q = o ∨ cA ad q) s.heap H [] := by rw [hH]; exact va_S.rf
  have hl : lv_has ls 6 [(0, .ref o), (1, .int x1), (2, .int x2), (3, .int x3), (4, .int x4), (5, .int x5)] := hl
  refine lv_aload_n C.1 C.2.1 dX11_feed_0 rfl (lv_at hl 0 rfl) ?_
  refine z_get C (v := .ref (ad 0)) hR rfl bi_wsX110 1 (by decide) zw_1_19 rfl rfl dX11_feed_1 ?_
  refine z_get C (v := .ref (ad 1)) hM.img rfl bi_wsX20 0 (by decide) zw_6_9 rfl rfl dX11_feed_4 ?_
  refine z_get C (v := .int (τ.1 0)) hM.byt rfl bi_wsX10 1 (by decide) zw_6_10 rfl rfl dX11_feed_7 ?_
  refine z_re (y := zI ((t : Nat) : Int)) hx0 ?_
  refine lv_sipush (v := zI 15980) C.1 C.2.1 dX11_feed_10 (by decide) ?_
  refine y_icmp_gt (tgt := 25) C (a := ((t : Nat) : Int)) (b := 15980) dX11_feed_13 (by decide) (by omega) (fun h13 => ?_) (fun h13 => ?_)
  · refine lv_iconst (v := zI (-1)) C.1 C.2.1 dX11_feed_25 (by decide) ?_
    exact hret _ _ _ _ (zI (-1)) hS ⟨fun z => absurd z (by omega), fun _ => ⟨rfl, hM, hR⟩⟩ rfl dX11_feed_26
  · refine lv_aload_n C.1 C.2.1 dX11_feed_16 rfl (lv_at hl 0 rfl) ?_
    refine z_get C (v := zN fd) hR rfl bi_wsX110 4 (by decide) zw_1_22 rfl rfl dX11_feed_17 ?_
    refine lv_ldc (v := zI 65516) C.1 C.2.1 C.2.2.2.1 (C.2.2.2.2.1 _ zw_6_11) dX11_feed_20 ?_
    refine y_icmp_le (tgt := 27) C (a := ((fd : Nat) : Int)) (b := 65516) dX11_feed_22 (by decide) (by omega) (fun h22 => ?_) (fun h22 => ?_)
    · refine lv_aload_n C.1 C.2.1 dX11_feed_27 rfl (lv_at hl 0 rfl) ?_
      refine lv_dup C.1 C.2.1 dX11_feed_28 rfl ?_
      refine z_get C (v := zN fd) hR rfl bi_wsX110 4 (by decide) zw_1_22 rfl rfl dX11_feed_29 ?_
      refine lv_bipush (v := zI 20) C.1 C.2.1 dX11_feed_32 (by decide) ?_
      refine y_iaddN C (a := fd) (b := 20) dX11_feed_34 ?_
      refine z_put C (v := zN (fd + 20)) tyX11 hR rfl bi_wsX110 tyX11_ok nmX11 4 (by decide) zw_1_22 rfl rfl rfl rfl (Nat.le_of_ble_eq_true rfl) hS (Or.inl rfl) dX11_feed_35 (fun H locs hu hR hS => ?_)
      have hM := hM.keep (fun i hi => hu.2 _ (hO i hi)) (fun q hq => absurd hq (List.not_mem_nil))
      refine lv_aload_n C.1 C.2.1 dX11_feed_38 rfl (lv_at hl 0 rfl) ?_
      refine z_get C (v := .ref (ad 0)) hR rfl bi_wsX110 1 (by decide) zw_1_19 rfl rfl dX11_feed_39 ?_
      refine z_get C (v := .ref (ad 1)) hM.img rfl bi_wsX20 0 (by decide) zw_6_9 rfl rfl dX11_feed_42 ?_
      refine lv_iload_n C.1 C.2.1 dX11_feed_45 rfl (lv_at hl 1 rfl) ?_
      refine z_callV C (As := [.int x1]) (rest := []) (c_X1_append l Z hM (n := t) hx0 (by omega) x1) hM.byt rfl ⟨⟨zw_6_15, zw_2_15, zw_6_12⟩, zd_X1_append⟩ zw_6_13 zw_6_14 ⟨Nat.le_of_ble_eq_true rfl, Nat.le_of_ble_eq_true rfl⟩ ⟨rfl, rfl⟩ rfl hl.1 rfl (Nat.le_of_ble_eq_true rfl) dX11_feed_46 ⟨Nat.zero_le _, Nat.zero_le _⟩ hS (fun _ h => Or.inr h) (fun v H locs hp_ hS _ hkk => ?_)
      obtain ⟨rfl, τ1, hM, hT1⟩ := hp_
      have hR := hR.kept (hkk o hR.lt (fun z => by obtain ⟨i, hi, e⟩ := z; exact hO i hi e.symm))
      have hT := hT1.app (h := fb x1 x2 x3 x4 x5) (d := 0) (g := fun _ => 0) ⟨chg.rf, hT1.2.1, fun _ _ => rfl, fun _ h => absurd h (Nat.not_lt_zero _)⟩ (fun k h => fb_1 h) (fun _ h => absurd h (Nat.not_lt_zero _))
      refine lv_aload_n C.1 C.2.1 dX11_feed_49 rfl (lv_at hl 0 rfl) ?_
      refine z_get C (v := .ref (ad 0)) hR rfl bi_wsX110 1 (by decide) zw_1_19 rfl rfl dX11_feed_50 ?_
      refine z_get C (v := .ref (ad 1)) hM.img rfl bi_wsX20 0 (by decide) zw_6_9 rfl rfl dX11_feed_53 ?_
      refine lv_iload_n C.1 C.2.1 dX11_feed_56 rfl (lv_at hl 2 rfl) ?_
      refine z_callV C (As := [.int x2]) (rest := []) (c_X1_append l Z hM (n := t + 4) hT.2.1 (by omega) x2) hM.byt rfl ⟨⟨zw_6_15, zw_2_15, zw_6_12⟩, zd_X1_append⟩ zw_6_13 zw_6_14 ⟨Nat.le_of_ble_eq_true rfl, Nat.le_of_ble_eq_true rfl⟩ ⟨rfl, rfl⟩ rfl hl.1 rfl (Nat.le_of_ble_eq_true rfl) dX11_feed_57 ⟨Nat.zero_le _, Nat.zero_le _⟩ hS (fun _ h => Or.inr h) (fun v H locs hp_ hS _ hkk => ?_)
      obtain ⟨rfl, τ2, hM, hT2⟩ := hp_
      have hR := hR.kept (hkk o hR.lt (fun z => by obtain ⟨i, hi, e⟩ := z; exact hO i hi e.symm))
      have hT := hT.app (h := fb x1 x2 x3 x4 x5) hT2 (fun _ _ => rfl) (fun k h => fb_2 h)
      refine lv_aload_n C.1 C.2.1 dX11_feed_60 rfl (lv_at hl 0 rfl) ?_
      refine z_get C (v := .ref (ad 0)) hR rfl bi_wsX110 1 (by decide) zw_1_19 rfl rfl dX11_feed_61 ?_
      refine z_get C (v := .ref (ad 1)) hM.img rfl bi_wsX20 0 (by decide) zw_6_9 rfl rfl dX11_feed_64 ?_
      refine lv_iload_n C.1 C.2.1 dX11_feed_67 rfl (lv_at hl 3 rfl) ?_
      refine z_callV C (As := [.int x3]) (rest := []) (c_X1_append l Z hM (n := t + 8) hT.2.1 (by omega) x3) hM.byt rfl ⟨⟨zw_6_15, zw_2_15, zw_6_12⟩, zd_X1_append⟩ zw_6_13 zw_6_14 ⟨Nat.le_of_ble_eq_true rfl, Nat.le_of_ble_eq_true rfl⟩ ⟨rfl, rfl⟩ rfl hl.1 rfl (Nat.le_of_ble_eq_true rfl) dX11_feed_68 ⟨Nat.zero_le _, Nat.zero_le _⟩ hS (fun _ h => Or.inr h) (fun v H locs hp_ hS _ hkk => ?_)
      obtain ⟨rfl, τ3, hM, hT3⟩ := hp_
      have hR := hR.kept (hkk o hR.lt (fun z => by obtain ⟨i, hi, e⟩ := z; exact hO i hi e.symm))
      have hT := hT.app (h := fb x1 x2 x3 x4 x5) hT3 (fun _ _ => rfl) (fun k h => fb_3 h)
      refine lv_aload_n C.1 C.2.1 dX11_feed_71 rfl (lv_at hl 0 rfl) ?_
      refine z_get C (v := .ref (ad 0)) hR rfl bi_wsX110 1 (by decide) zw_1_19 rfl rfl dX11_feed_72 ?_
      refine z_get C (v := .ref (ad 1)) hM.img rfl bi_wsX20 0 (by decide) zw_6_9 rfl rfl dX11_feed_75 ?_
      refine lv_iload C.1 C.2.1 dX11_feed_78 (lv_at hl 4 rfl) ?_
      refine z_callV C (As := [.int x4]) (rest := []) (c_X1_append l Z hM (n := t + 12) hT.2.1 (by omega) x4) hM.byt rfl ⟨⟨zw_6_15, zw_2_15, zw_6_12⟩, zd_X1_append⟩ zw_6_13 zw_6_14 ⟨Nat.le_of_ble_eq_true rfl, Nat.le_of_ble_eq_true rfl⟩ ⟨rfl, rfl⟩ rfl hl.1 rfl (Nat.le_of_ble_eq_true rfl) dX11_feed_80 ⟨Nat.zero_le _, Nat.zero_le _⟩ hS (fun _ h => Or.inr h) (fun v H locs hp_ hS _ hkk => ?_)
      obtain ⟨rfl, τ4, hM, hT4⟩ := hp_
      have hR := hR.kept (hkk o hR.lt (fun z => by obtain ⟨i, hi, e⟩ := z; exact hO i hi e.symm))
      have hT := hT.app (h := fb x1 x2 x3 x4 x5) hT4 (fun _ _ => rfl) (fun k h => fb_4 h)
      refine lv_aload_n C.1 C.2.1 dX11_feed_83 rfl (lv_at hl 0 rfl) ?_
      refine z_get C (v := .ref (ad 0)) hR rfl bi_wsX110 1 (by decide) zw_1_19 rfl rfl dX11_feed_84 ?_
      refine z_get C (v := .ref (ad 1)) hM.img rfl bi_wsX20 0 (by decide) zw_6_9 rfl rfl dX11_feed_87 ?_
      refine lv_iload C.1 C.2.1 dX11_feed_90 (lv_at hl 5 rfl) ?_
      refine z_callV C (As := [.int x5]) (rest := []) (c_X1_append l Z hM (n := t + 16) hT.2.1 (by omega) x5) hM.byt rfl ⟨⟨zw_6_15, zw_2_15, zw_6_12⟩, zd_X1_append⟩ zw_6_13 zw_6_14 ⟨Nat.le_of_ble_eq_true rfl, Nat.le_of_ble_eq_true rfl⟩ ⟨rfl, rfl⟩ rfl hl.1 rfl (Nat.le_of_ble_eq_true rfl) dX11_feed_92 ⟨Nat.zero_le _, Nat.zero_le _⟩ hS (fun _ h => Or.inr h) (fun v H locs hp_ hS _ hkk => ?_)
      obtain ⟨rfl, τ5, hM, hT5⟩ := hp_
      have hR := hR.kept (hkk o hR.lt (fun z => by obtain ⟨i, hi, e⟩ := z; exact hO i hi e.symm))
      have hT := hT.app (h := fb x1 x2 x3 x4 x5) hT5 (fun _ _ => rfl) (fun k h => fb_5 h)
      refine lv_aload_n C.1 C.2.1 dX11_feed_95 rfl (lv_at hl 0 rfl) ?_
      refine z_get C (v := .ref (ad 0)) hR rfl bi_wsX110 1 (by decide) zw_1_19 rfl rfl dX11_feed_96 ?_
      refine z_get C (v := .ref (ad 1)) hM.img rfl bi_wsX20 0 (by decide) zw_6_9 rfl rfl dX11_feed_99 ?_
      refine z_get C (v := .int (τ5.1 0)) hM.byt rfl bi_wsX10 1 (by decide) zw_6_10 rfl rfl dX11_feed_102 ?_
      refine z_re (y := zI ((t + 20 : Nat) : Int)) hT.2.1 ?_
      exact hret _ _ _ _ (zI ((t + 20 : Nat) : Int)) hS ⟨fun _ => ⟨rfl, τ5, hM, hT, hR⟩, fun z => absurd (And.intro (by omega) (by omega)) z⟩ rfl dX11_feed_105
    · refine lv_iconst (v := zI (-1)) C.1 C.2.1 dX11_feed_25 (by decide) ?_
      exact hret _ _ _ _ (zI (-1)) hS ⟨fun z => absurd z (by omega), fun _ => ⟨rfl, hM, hR⟩⟩ rfl dX11_feed_26

set_option maxHeartbeats 4000000 in
set_option maxRecDepth 20000 in
theorem c_X11_place (l : Launch) (Z : zT) {H : Heap} {ad : Nat → Nat} {τ : mS} (hM : isC Z H ad τ []) {o b : Nat} {kn fd : Int} (hR : zAt Z H o (.inr (7, rF (ad 15) (ad 0) b kn fd))) (hO : ∀ i, i < 40 → ad i ≠ o) : zP l Z yX11_place cX11_place 1 (some .int) (rmk 1) [.ref o] H (.int (τ.1 9)) := by
  refine zM.introI (own := RX11) ⟨by decide, rfl⟩ (Nat.le_of_ble_eq_true rfl) ?_
  intro p e s m args below meth c Q ls hH C hl hret
  have hS : va_S (fun _ => False) s.heap H [] := by rw [hH]; exact va_S.rf
  have hl : lv_has ls 1 [(0, .ref o)] := hl
  refine lv_aload_n C.1 C.2.1 dX11_place_0 rfl (lv_at hl 0 rfl) ?_
  refine z_get C (v := .ref (ad 15)) hR rfl bi_wsX110 0 (by decide) zw_1_15 rfl rfl dX11_place_1 ?_
  refine z_get C (v := .int (τ.1 9)) hM.ver rfl bi_wsX100 1 (by decide) zw_36_4 rfl rfl dX11_place_4 ?_
  exact hret _ _ _ _ (τ.1 9) hS ⟨rfl, rfl⟩ rfl dX11_place_7
