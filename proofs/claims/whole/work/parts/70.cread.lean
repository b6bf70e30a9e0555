/-! the component: read -/
theorem isC.addO {Z : zT} {H : Heap} {ad : Nat → Nat} {τ : mS} {o : Nat} {e : va_E} (h : isC Z H ad τ []) (hR : zAt Z H o e) (hO : ∀ i, i < 40 → ad i ≠ o) : isC Z H ad τ [(o, e)] := by
  obtain ⟨a1, a2, a3, a4, a5, a6, a7, a8, a9, a10⟩ := h
  refine ⟨a1, a2, a3, a4, a5, a6, a7, a8, a9, fun q hq => ?_⟩
  rcases List.mem_cons.mp hq with z | z
  · subst z; exact ⟨hR, hO⟩
  · exact absurd z (List.not_mem_nil)
theorem sx_self (τ : mS) (k : Nat) : sx τ k (τ.1 k) = τ := by
  unfold sx
  have : upd τ.1 k (τ.1 k) = τ.1 := by
    funext j
    by_cases e : j = k
    · subst e; exact upd_2
    · exact upd_ne e
  rw [this]
theorem vv_self {τA τ : mS} (h8 : τA.1 8 = τ.1 8) (h9 : τA.1 9 = τ.1 9) : vv τA τ = τ := by
  unfold vv
  rw [h8, h9, sx_self, sx_self]
theorem rA_no {Z : zT} {H : Heap} {o h0 : Nat} {ad adB : Nat → Nat} {τ : mS} {X : List (Nat × va_E)} (ha : apt o ad adB) (hB : isC Z H adB τ X) (hh : h0 = H.size) {j : Nat} (hj : j < 40) (hne : j ≠ 15) : ¬ kA ad h0 (adB j) := by
  rintro (⟨i, hi, e⟩ | e)
  · exact ha.2.2.2 i j hi hj hne e.symm
  · have := hB.lt hj; omega

set_option maxHeartbeats 4000000 in
set_option maxRecDepth 20000 in
theorem c_X11_read (l : Launch) (Z : zT) {H : Heap} {ad : Nat → Nat} {τ : mS} (hM : isC Z H ad τ []) {F : Nat → Nat} {n : Nat} (hB : cSrc τ F n) {o : Nat} {adB : Nat → Nat} {τB : mS} {kn fd : Int} (hR : zAt Z H o (.inr (7, rF (ad 15) (ad 0) (adB 0) kn fd))) (ha : apt o ad adB) (hMB : isC Z H adB (vv τ τB) []) {h0 : Nat} (hh0 : h0 = H.size) : zM l Z yX11_read cX11_read 2 (some .int) { rmk 12 with cells := 25, slots := 100 } [.ref o] H (rA o ad adB h0) 25 100 (fun v H' => (∃ tb cl nf nm mt fa last, xLay F n = .ok (tb, cl, nf, nm, mt, fa, last) ∧ xFile F n = none ∧ v = some (zN 0) ∧ ∃ τ' : mS, isC Z H' adB (sx (vv τ' τB) 0 (zI 0)) [] ∧ isC Z H' ad τ' [] ∧ zAt Z H' o (.inr (7, rF (ad 15) (adB 0) (ad 0) 1 fd)) ∧ cAll τ' F n tb cl nf nm mt fa last ∧ τ'.1 8 = zI 0 ∧ τ'.1 9 = zI (-1) ∧ cSrc τ' F n) ∨ (∃ r w, xFile F n = some (r, w) ∧ v = some (zN r) ∧ ∃ τ' : mS, isC Z H' ad τ' [] ∧ τ'.1 0 = zI 0 ∧ τ'.1 8 = zI (r : Int) ∧ τ'.1 9 = zI (w : Int) ∧ isC Z H' adB (vv τ' τB) [] ∧ zAt Z H' o (.inr (7, rF (ad 15) (ad 0) (adB 0) kn fd)))) := by
  have hn := hB.2.2.2
  have hO := ha.2.1
  have hnB : ∀ j, j < 40 → j ≠ 15 → ¬ kA ad h0 (adB j) := fun j hj hne => rA_no ha hMB hh0 hj hne
  refine zM.introI (own := RX11) ⟨by decide, rfl⟩ (Nat.le_of_ble_eq_true rfl) ?_
  intro p e s m args below meth c Q ls hH C hl hret
  have hS : va_S (rA o ad adB h0) s.heap H [] := by rw [hH]; exact va_S.rf
  have hl : lv_has ls 2 [(0, .ref o)] := hl
  refine lv_aload_n C.1 C.2.1 dX11_read_0 rfl (lv_at hl 0 rfl) ?_
  refine z_get C (v := .ref (ad 15)) hR rfl bi_wsX110 0 (by decide) zw_1_15 rfl rfl dX11_read_1 ?_
  refine z_callV C (As := []) (rest := []) (c_X10_clear l Z hM) hM.ver rfl ⟨⟨zw_2_6, zw_1_14, zw_7_16⟩, zd_X10_clear⟩ zw_2_4 zw_2_5 ⟨Nat.le_of_ble_eq_true rfl, Nat.le_of_ble_eq_true rfl⟩ ⟨rfl, rfl⟩ rfl hl.1 rfl (Nat.le_of_ble_eq_true rfl) dX11_read_4 ⟨Nat.le_of_ble_eq_true rfl, Nat.le_of_ble_eq_true rfl⟩ hS (fun _ h => Or.inr (Or.inl h)) (fun v H locs hp_ hS hsz hkk => ?_)
  obtain ⟨rfl, hM⟩ := hp_
  have hMB := vstep hMB hM ha hkk (fun j hj hne z => rA_no ha hMB hh0 hj hne (Or.inl z))
  have hR := hR.kept (hkk o hR.lt (fun z => by obtain ⟨i, hi, e⟩ := z; exact hO i hi e.symm))
  have hsz1 : h0 ≤ H.size := by omega
  refine lv_aload_n C.1 C.2.1 dX11_read_7 rfl (lv_at hl 0 rfl) ?_
  refine lv_aload_n C.1 C.2.1 dX11_read_8 rfl (lv_at hl 0 rfl) ?_
  refine z_get C (v := .ref (ad 0)) hR rfl bi_wsX110 1 (by decide) zw_1_19 rfl rfl dX11_read_9 ?_
  have hMX := hM.addO hR hO
  have hB1 : cSrc (sx (sx τ 8 (zI 0)) 9 (zI (-1))) F n := hB
  refine z_callV C (As := [.ref (ad 0)]) (rest := []) (c_X11_keepsAllRules l Z hMX hB1 (fs := [.ref (ad 0), .ref (adB 0), zV kn, zV fd]) (o := o) List.mem_cons_self (h0 := h0) hsz1) hR rfl ⟨⟨zw_7_20, zw_1_2, zw_7_17⟩, zd_X11_keepsAllRules⟩ zw_7_18 zw_7_19 ⟨Nat.le_of_ble_eq_true rfl, Nat.le_of_ble_eq_true rfl⟩ ⟨rfl, rfl⟩ rfl hl.1 rfl (Nat.le_of_ble_eq_true rfl) dX11_read_12 ⟨Nat.le_of_ble_eq_true rfl, Nat.le_of_ble_eq_true rfl⟩ hS (fun q h => by rcases h with z | z; exact Or.inr (Or.inl z); exact Or.inr (Or.inr (Or.inr z))) (fun v H locs hp_ hS hsz hkk => ?_)
  rcases hp_ with ⟨tb, cl, nf, nm, mt, fa, last, eL, eF, rfl, τ1, hM, hc1, hAll⟩ | ⟨r1, w1, eF, rfl, τ1, hM, hc1, g8, g9⟩
  · have hR := hM.ex' (List.mem_cons_self)
    have hM := hM.drop
    have hMB := vstep hMB hM ha hkk hnB
    refine y_if_eq (tgt := 41) C (a := 1) dX11_read_15 (by decide) (by omega) (fun h15 => ?_) (fun h15 => ?_)
    · exact False.elim (by first | omega | exact h15 rfl)
    · refine lv_aload_n C.1 C.2.1 dX11_read_18 rfl (lv_at hl 0 rfl) ?_
      refine z_get C (v := .ref (adB 0)) hR rfl bi_wsX110 2 (by decide) zw_1_20 rfl rfl dX11_read_19 ?_
      refine lv_astore_n (lv' := [(1, .ref (adB 0)), (0, .ref o)]) C.1 C.2.1 dX11_read_22 rfl hl (by decide) rfl (fun ls hl => ?_)
      refine lv_aload_n C.1 C.2.1 dX11_read_23 rfl (lv_at hl 1 rfl) ?_
      refine lv_aload_n C.1 C.2.1 dX11_read_24 rfl (lv_at hl 1 rfl) ?_
      refine z_get C (v := .ref (ad 0)) hR rfl bi_wsX110 1 (by decide) zw_1_19 rfl rfl dX11_read_25 ?_
      refine z_put C (v := .ref (ad 0)) tyX11 hR rfl bi_wsX110 tyX11_ok nmX11 2 (by decide) zw_1_20 rfl rfl rfl rfl (Nat.le_of_ble_eq_true rfl) hS (Or.inl rfl) dX11_read_28 (fun H locs hu hR hS => ?_)
      have hM := hM.keep (fun i hi => hu.2 _ (hO i hi)) (fun q hq => absurd hq (List.not_mem_nil))
      have hMB := hMB.keep (fun i hi => hu.2 _ (ha.2.2.1 i hi)) (fun q hq => absurd hq (List.not_mem_nil))
      refine lv_aload_n C.1 C.2.1 dX11_read_31 rfl (lv_at hl 1 rfl) ?_
      refine lv_aload_n C.1 C.2.1 dX11_read_32 rfl (lv_at hl 0 rfl) ?_
      refine z_put C (v := .ref (adB 0)) tyX11 hR rfl bi_wsX110 tyX11_ok nmX11 1 (by decide) zw_1_19 rfl rfl rfl rfl (Nat.le_of_ble_eq_true rfl) hS (Or.inl rfl) dX11_read_33 (fun H locs hu hR hS => ?_)
      have hM := hM.keep (fun i hi => hu.2 _ (hO i hi)) (fun q hq => absurd hq (List.not_mem_nil))
      have hMB := hMB.keep (fun i hi => hu.2 _ (ha.2.2.1 i hi)) (fun q hq => absurd hq (List.not_mem_nil))
      refine lv_aload_n C.1 C.2.1 dX11_read_36 rfl (lv_at hl 1 rfl) ?_
      refine lv_iconst (v := zI 1) C.1 C.2.1 dX11_read_37 (by decide) ?_
      refine z_put C (v := zN 1) tyX11 hR rfl bi_wsX110 tyX11_ok nmX11 3 (by decide) zw_1_21 rfl rfl rfl rfl (Nat.le_of_ble_eq_true rfl) hS (Or.inl rfl) dX11_read_38 (fun H locs hu hR hS => ?_)
      have hM := hM.keep (fun i hi => hu.2 _ (hO i hi)) (fun q hq => absurd hq (List.not_mem_nil))
      have hMB := hMB.keep (fun i hi => hu.2 _ (ha.2.2.1 i hi)) (fun q hq => absurd hq (List.not_mem_nil))
      refine lv_aload_n C.1 C.2.1 dX11_read_41 rfl (lv_at hl 1 rfl) ?_
      refine z_get C (v := .ref (adB 0)) hR rfl bi_wsX110 1 (by decide) zw_1_19 rfl rfl dX11_read_42 ?_
      refine z_get C (v := .ref (adB 1)) hMB.img rfl bi_wsX20 0 (by decide) zw_6_9 rfl rfl dX11_read_45 ?_
      refine lv_iconst (v := zI 0) C.1 C.2.1 dX11_read_48 (by decide) ?_
      refine z_put C (v := zN 0) tyX1 hMB.byt rfl bi_wsX10 tyX1_ok nmX1 1 (by decide) zw_6_10 rfl rfl rfl rfl (Nat.le_of_ble_eq_true rfl) hS (Or.inr (Or.inr (Or.inl (cA.k 1 (by decide))))) dX11_read_49 (fun H locs hu hn hS => ?_)
      have hMB := hMB.sx0 hu hn
      have hR := hu.at hR (Ne.symm (ha.2.2.1 1 (by decide)))
      have hM := hM.keep (fun i hi => hu.2 _ (ha.2.2.2 i 1 hi (by decide) (by decide))) (fun q hq => absurd hq (List.not_mem_nil))
      refine lv_aload_n C.1 C.2.1 dX11_read_52 rfl (lv_at hl 1 rfl) ?_
      refine z_get C (v := .ref (ad 15)) hR rfl bi_wsX110 0 (by decide) zw_1_15 rfl rfl dX11_read_53 ?_
      refine z_get C (v := .int (τ1.1 8)) hM.ver rfl bi_wsX100 0 (by decide) zw_7_15 rfl rfl dX11_read_56 ?_
      refine z_re (y := zI 0) (hc1.1 8 (by decide)) ?_
      exact hret _ _ _ _ (zI 0) hS (Or.inl ⟨tb, cl, nf, nm, mt, fa, last, eL, eF, rfl, τ1, hMB, hM, hR, hAll, (hc1.1 8 (by decide)), (hc1.1 9 (by decide)), hB1.1, fun j hj => (congrFun (hc1.2.1 2 (by decide)) j).trans (hB1.2.1 j hj), (hc1.1 0 (by decide)).trans hB1.2.2.1, hB1.2.2.2⟩) rfl dX11_read_59
  · have hR := hM.ex' (List.mem_cons_self)
    have hM := hM.drop
    have hMB := vstep hMB hM ha hkk hnB
    refine y_if_eq (tgt := 41) C (a := 0) dX11_read_15 (by decide) (by omega) (fun h15 => ?_) (fun h15 => ?_)
    · refine lv_aload_n C.1 C.2.1 dX11_read_41 rfl (lv_at hl 0 rfl) ?_
      refine z_get C (v := .ref (ad 0)) hR rfl bi_wsX110 1 (by decide) zw_1_19 rfl rfl dX11_read_42 ?_
      refine z_get C (v := .ref (ad 1)) hM.img rfl bi_wsX20 0 (by decide) zw_6_9 rfl rfl dX11_read_45 ?_
      refine lv_iconst (v := zI 0) C.1 C.2.1 dX11_read_48 (by decide) ?_
      refine z_put C (v := zN 0) tyX1 hM.byt rfl bi_wsX10 tyX1_ok nmX1 1 (by decide) zw_6_10 rfl rfl rfl rfl (Nat.le_of_ble_eq_true rfl) hS (Or.inr (Or.inl (cA.k 1 (by decide)))) dX11_read_49 (fun H locs hu hn hS => ?_)
      have hM := hM.sx0 hu hn
      have hR := hu.at hR (Ne.symm (hO 1 (by decide)))
      have hMB := hMB.keep (fun i hi => hu.2 _ (by rcases Classical.em (i = 15) with z | z; (rw [z, ← ha.1]; exact hM.inj (by omega) (by omega) (by omega)); (exact Ne.symm (ha.2.2.2 1 i (by omega) hi z)))) (fun q hq => absurd hq (List.not_mem_nil))
      refine lv_aload_n C.1 C.2.1 dX11_read_52 rfl (lv_at hl 0 rfl) ?_
      refine z_get C (v := .ref (ad 15)) hR rfl bi_wsX110 0 (by decide) zw_1_15 rfl rfl dX11_read_53 ?_
      refine z_get C (v := .int ((sx τ1 0 (zI 0)).1 8)) hM.ver rfl bi_wsX100 0 (by decide) zw_7_15 rfl rfl dX11_read_56 ?_
      refine z_re (y := zI ((r1 : Nat) : Int)) g8 ?_
      exact hret _ _ _ _ (zI ((r1 : Nat) : Int)) hS (Or.inr ⟨r1, w1, eF, rfl, _, hM, rfl, g8, g9, hMB, hR⟩) rfl dX11_read_59
    · exact False.elim (by first | omega | exact h15 rfl)
