/-! the component: code, first, target -/

set_option maxHeartbeats 4000000 in
set_option maxRecDepth 20000 in
theorem c_codeA (l : Launch) (Z : zT) {H : Heap} {ad : Nat → Nat} {τ : mS} {X : List (Nat × va_E)} (hM : isC Z H ad τ X) {o v0 a0 : Nat} {kn fd : Int} (hR : zAt Z H o (.inr (7, rF v0 a0 (ad 0) kn fd))) {F : Nat → Nat} {n : Nat} (hB : cSrc τ F n) {nm : Nat} (hx3 : τ.1 3 = zI (nm : Int)) (hnm : nm ≤ 24) {fr rn : Nat → Nat} (hb : ∀ j, j < nm → τ.2.1 28 j = zI (fr j : Int) ∧ τ.2.1 29 j = zI (rn j : Int) ∧ fr j + rn j ≤ 16000) {ca sz ml ch cn f0 N bm : Nat} (hm : cMt τ F n ca sz ml ch cn f0 N bm) (hbn : bm < nm) (hfr : fr bm = f0) (hrn : rn bm = N) {i : Nat} (hi : i < N) : zP l Z yX11_code cX11_code 4 (some .int) (rmk 4) [.ref o, zN bm, zN i] H (zN (kdC (ocC F (ca + stF F ca sz i)))) := by
  have hn := hB.2.2.2
  obtain ⟨m1, m2, m3, m4, m5, m6, m7, m8, m9, m10, m11, m12, m13, m14⟩ := id hm
  have hst := m4.2 i hi
  have hNs := isWh_le m4
  refine zM.introI (own := RX11) ⟨by decide, rfl⟩ (Nat.le_of_ble_eq_true rfl) ?_
  intro p e s m args below meth c Q ls hH C hl hret
  have hS : va_S (fun _ => False) s.heap H [] := by rw [hH]; exact va_S.rf
  have hl : lv_has ls 4 [(0, .ref o), (1, zN bm), (2, zN i)] := hl
  refine lv_aload_n C.1 C.2.1 dX11_code_0 rfl (lv_at hl 0 rfl) ?_
  refine z_get C (v := .ref (ad 0)) hR rfl bi_wsX110 2 (by decide) zw_1_20 rfl rfl dX11_code_1 ?_
  refine lv_iload_n C.1 C.2.1 dX11_code_4 rfl (lv_at hl 1 rfl) ?_
  refine lv_iload_n C.1 C.2.1 dX11_code_5 rfl (lv_at hl 2 rfl) ?_
  refine z_readV C (As := [zN bm, zN i]) (rest := []) (c_insP1 l Z hM hx3 hnm hb bm hbn (i : Int) (by omega)) hM.img rfl ⟨⟨zw_38_11, zw_1_18, zw_38_8⟩, zd_X2_instructionPlace⟩ zw_38_9 zw_38_10 ⟨Nat.le_of_ble_eq_true rfl, Nat.le_of_ble_eq_true rfl⟩ ⟨rfl, rfl⟩ rfl hl.1 rfl (Nat.le_of_ble_eq_true rfl) dX11_code_6 ⟨Nat.zero_le _, Nat.zero_le _⟩ hS (fun locs hS => ?_)
  refine z_re (y := zI ((ca + stF F ca sz i : Nat) : Int)) (by unfold inP; rw [if_pos ⟨by omega, by omega, by rw [Int.toNat_natCast, hrn]; omega⟩, Int.toNat_natCast, Int.toNat_natCast, hfr]; exact m14 i hi) ?_
  refine lv_istore_n (lv' := [(3, zN (ca + stF F ca sz i)), (0, .ref o), (1, zN bm), (2, zN i)]) C.1 C.2.1 dX11_code_9 rfl hl (by decide) rfl (fun ls hl => ?_)
  refine lv_iload_n C.1 C.2.1 dX11_code_10 rfl (lv_at hl 0 rfl) ?_
  refine lv_iconst (v := zI (-1)) C.1 C.2.1 dX11_code_11 (by decide) ?_
  refine y_icmp_ne (tgt := 19) C (a := ((ca + stF F ca sz i : Nat) : Int)) (b := -1) dX11_code_12 (by decide) (by omega) (fun h12 => ?_) (fun h12 => ?_)
  · refine lv_aload_n C.1 C.2.1 dX11_code_19 rfl (lv_at hl 1 rfl) ?_
    refine z_get C (v := .ref (ad 0)) hR rfl bi_wsX110 2 (by decide) zw_1_20 rfl rfl dX11_code_20 ?_
    refine z_get C (v := .ref (ad 1)) hM.img rfl bi_wsX20 0 (by decide) zw_6_9 rfl rfl dX11_code_23 ?_
    refine lv_iload_n C.1 C.2.1 dX11_code_26 rfl (lv_at hl 0 rfl) ?_
    refine z_readS C (As := [.ref (ad 1), zN (ca + stF F ca sz i)]) (rest := []) (c_X3_kindAt l Z hM hB (k := ca + stF F ca sz i) (by omega)) ⟨⟨zw_22_22, zw_20_22, zw_38_13⟩, zd_X3_kindAt⟩ zw_22_21 ⟨Nat.le_of_ble_eq_true rfl, Nat.le_of_ble_eq_true rfl⟩ ⟨rfl, rfl⟩ rfl hl.1 rfl (Nat.le_of_ble_eq_true rfl) dX11_code_27 ⟨Nat.zero_le _, Nat.zero_le _⟩ hS (fun locs hS => ?_)
    exact hret _ _ _ _ (zI ((kdC (ocC F (ca + stF F ca sz i)) : Nat) : Int)) hS ⟨rfl, rfl⟩ rfl dX11_code_30
  · exact False.elim (by first | omega | exact h12 rfl)

set_option maxHeartbeats 4000000 in
set_option maxRecDepth 20000 in
theorem c_codeB1 (l : Launch) (Z : zT) {H : Heap} {ad : Nat → Nat} {τ : mS} {X : List (Nat × va_E)} (hM : isC Z H ad τ X) {o v0 a0 : Nat} {kn fd : Int} (hR : zAt Z H o (.inr (7, rF v0 a0 (ad 0) kn fd))) {nm : Nat} (hx3 : τ.1 3 = zI (nm : Int)) (hnm : nm ≤ 24) {fr rn : Nat → Nat} (hb : ∀ j, j < nm → τ.2.1 28 j = zI (fr j : Int) ∧ τ.2.1 29 j = zI (rn j : Int) ∧ fr j + rn j ≤ 16000) (k : Nat) (hk : k < nm) (u : Int) (hu : -2147483648 ≤ u ∧ u ≤ 2147483647) (hno : ¬ (0 ≤ u ∧ u < (rn k : Int))) : zP l Z yX11_code cX11_code 4 (some .int) (rmk 4) [.ref o, zN k, zV u] H (zV (-1)) := by
  refine zM.introI (own := RX11) ⟨by decide, rfl⟩ (Nat.le_of_ble_eq_true rfl) ?_
  intro p e s m args below meth c Q ls hH C hl hret
  have hS : va_S (fun _ => False) s.heap H [] := by rw [hH]; exact va_S.rf
  have hl : lv_has ls 4 [(0, .ref o), (1, zN k), (2, zV u)] := hl
  refine lv_aload_n C.1 C.2.1 dX11_code_0 rfl (lv_at hl 0 rfl) ?_
  refine z_get C (v := .ref (ad 0)) hR rfl bi_wsX110 2 (by decide) zw_1_20 rfl rfl dX11_code_1 ?_
  refine lv_iload_n C.1 C.2.1 dX11_code_4 rfl (lv_at hl 1 rfl) ?_
  refine lv_iload_n C.1 C.2.1 dX11_code_5 rfl (lv_at hl 2 rfl) ?_
  refine z_readV C (As := [zN k, zV u]) (rest := []) (c_insP1 l Z hM hx3 hnm hb k hk u (by omega)) hM.img rfl ⟨⟨zw_38_11, zw_1_18, zw_38_8⟩, zd_X2_instructionPlace⟩ zw_38_9 zw_38_10 ⟨Nat.le_of_ble_eq_true rfl, Nat.le_of_ble_eq_true rfl⟩ ⟨rfl, rfl⟩ rfl hl.1 rfl (Nat.le_of_ble_eq_true rfl) dX11_code_6 ⟨Nat.zero_le _, Nat.zero_le _⟩ hS (fun locs hS => ?_)
  refine z_re (y := zI (-1)) (by unfold inP; rw [if_neg (fun z => hno (by have := z.2; rw [Int.toNat_natCast] at this; exact this))]) ?_
  refine lv_istore_n (lv' := [(3, zV (-1)), (0, .ref o), (1, zN k), (2, zV u)]) C.1 C.2.1 dX11_code_9 rfl hl (by decide) rfl (fun ls hl => ?_)
  refine lv_iload_n C.1 C.2.1 dX11_code_10 rfl (lv_at hl 0 rfl) ?_
  refine lv_iconst (v := zI (-1)) C.1 C.2.1 dX11_code_11 (by decide) ?_
  refine y_icmp_ne (tgt := 19) C (a := -1) (b := -1) dX11_code_12 (by decide) (by omega) (fun h12 => ?_) (fun h12 => ?_)
  · exact False.elim (by first | omega | exact h12 rfl)
  · refine lv_iconst (v := zI (-1)) C.1 C.2.1 dX11_code_15 (by decide) ?_
    refine lv_goto (tgt := 30) C.1 C.2.1 dX11_code_16 (by decide) ?_
    exact hret _ _ _ _ (zI (-1)) hS ⟨rfl, rfl⟩ rfl dX11_code_30

set_option maxHeartbeats 4000000 in
set_option maxRecDepth 20000 in
theorem c_codeB0 (l : Launch) (Z : zT) {H : Heap} {ad : Nat → Nat} {τ : mS} {X : List (Nat × va_E)} (hM : isC Z H ad τ X) {o v0 a0 : Nat} {kn fd : Int} (hR : zAt Z H o (.inr (7, rF v0 a0 (ad 0) kn fd))) {nm : Nat} (hx3 : τ.1 3 = zI (nm : Int)) (hnm : nm ≤ 24) {fr rn : Nat → Nat} (hb : ∀ j, j < nm → τ.2.1 28 j = zI (fr j : Int) ∧ τ.2.1 29 j = zI (rn j : Int) ∧ fr j + rn j ≤ 16000) (t : Int) (ht : -2147483648 ≤ t ∧ t ≤ 2147483647) (hk : ¬ (0 ≤ t ∧ t < (nm : Int))) (u : Int) : zP l Z yX11_code cX11_code 4 (some .int) (rmk 4) [.ref o, zV t, zV u] H (zV (-1)) := by
  refine zM.introI (own := RX11) ⟨by decide, rfl⟩ (Nat.le_of_ble_eq_true rfl) ?_
  intro p e s m args below meth c Q ls hH C hl hret
  have hS : va_S (fun _ => False) s.heap H [] := by rw [hH]; exact va_S.rf
  have hl : lv_has ls 4 [(0, .ref o), (1, zV t), (2, zV u)] := hl
  refine lv_aload_n C.1 C.2.1 dX11_code_0 rfl (lv_at hl 0 rfl) ?_
  refine z_get C (v := .ref (ad 0)) hR rfl bi_wsX110 2 (by decide) zw_1_20 rfl rfl dX11_code_1 ?_
  refine lv_iload_n C.1 C.2.1 dX11_code_4 rfl (lv_at hl 1 rfl) ?_
  refine lv_iload_n C.1 C.2.1 dX11_code_5 rfl (lv_at hl 2 rfl) ?_
  refine z_readV C (As := [zV t, zV u]) (rest := []) (c_insP0 l Z hM hx3 hnm hb t (by omega) hk u) hM.img rfl ⟨⟨zw_38_11, zw_1_18, zw_38_8⟩, zd_X2_instructionPlace⟩ zw_38_9 zw_38_10 ⟨Nat.le_of_ble_eq_true rfl, Nat.le_of_ble_eq_true rfl⟩ ⟨rfl, rfl⟩ rfl hl.1 rfl (Nat.le_of_ble_eq_true rfl) dX11_code_6 ⟨Nat.zero_le _, Nat.zero_le _⟩ hS (fun locs hS => ?_)
  refine z_re (y := zI (-1)) (by unfold inP; rw [if_neg (fun z => hk z.1)]) ?_
  refine lv_istore_n (lv' := [(3, zV (-1)), (0, .ref o), (1, zV t), (2, zV u)]) C.1 C.2.1 dX11_code_9 rfl hl (by decide) rfl (fun ls hl => ?_)
  refine lv_iload_n C.1 C.2.1 dX11_code_10 rfl (lv_at hl 0 rfl) ?_
  refine lv_iconst (v := zI (-1)) C.1 C.2.1 dX11_code_11 (by decide) ?_
  refine y_icmp_ne (tgt := 19) C (a := -1) (b := -1) dX11_code_12 (by decide) (by omega) (fun h12 => ?_) (fun h12 => ?_)
  · exact False.elim (by first | omega | exact h12 rfl)
  · refine lv_iconst (v := zI (-1)) C.1 C.2.1 dX11_code_15 (by decide) ?_
    refine lv_goto (tgt := 30) C.1 C.2.1 dX11_code_16 (by decide) ?_
    exact hret _ _ _ _ (zI (-1)) hS ⟨rfl, rfl⟩ rfl dX11_code_30

set_option maxHeartbeats 4000000 in
set_option maxRecDepth 20000 in
theorem c_firstB1 (l : Launch) (Z : zT) {H : Heap} {ad : Nat → Nat} {τ : mS} {X : List (Nat × va_E)} (hM : isC Z H ad τ X) {o v0 a0 : Nat} {kn fd : Int} (hR : zAt Z H o (.inr (7, rF v0 a0 (ad 0) kn fd))) {nm : Nat} (hx3 : τ.1 3 = zI (nm : Int)) (hnm : nm ≤ 24) {fr rn : Nat → Nat} (hb : ∀ j, j < nm → τ.2.1 28 j = zI (fr j : Int) ∧ τ.2.1 29 j = zI (rn j : Int) ∧ fr j + rn j ≤ 16000) (k : Nat) (hk : k < nm) (u : Int) (hu : -2147483648 ≤ u ∧ u ≤ 2147483647) (hno : ¬ (0 ≤ u ∧ u < (rn k : Int))) : zP l Z yX11_first cX11_first 5 (some .int) (rmk 6) [.ref o, zN k, zV u] H (zN 0) := by
  refine zM.introI (own := RX11) ⟨by decide, rfl⟩ (Nat.le_of_ble_eq_true rfl) ?_
  intro p e s m args below meth c Q ls hH C hl hret
  have hS : va_S (fun _ => False) s.heap H [] := by rw [hH]; exact va_S.rf
  have hl : lv_has ls 5 [(0, .ref o), (1, zN k), (2, zV u)] := hl
  refine lv_aload_n C.1 C.2.1 dX11_first_0 rfl (lv_at hl 0 rfl) ?_
  refine z_get C (v := .ref (ad 0)) hR rfl bi_wsX110 2 (by decide) zw_1_20 rfl rfl dX11_first_1 ?_
  refine lv_iload_n C.1 C.2.1 dX11_first_4 rfl (lv_at hl 1 rfl) ?_
  refine z_readV C (As := [zN k]) (rest := []) (c_bodyOf l Z hM hx3 hnm k rfl (by omega)) hM.img rfl ⟨⟨zw_16_18, zw_1_18, zw_37_19⟩, zd_X2_bodyOf⟩ zw_16_16 zw_16_17 ⟨Nat.le_of_ble_eq_true rfl, Nat.le_of_ble_eq_true rfl⟩ ⟨rfl, rfl⟩ rfl hl.1 rfl (Nat.le_of_ble_eq_true rfl) dX11_first_5 ⟨Nat.zero_le _, Nat.zero_le _⟩ hS (fun locs hS => ?_)
  refine lv_astore_n (lv' := [(3, .ref (ad (16 + k))), (0, .ref o), (1, zN k), (2, zV u)]) C.1 C.2.1 dX11_first_8 rfl hl (by decide) rfl (fun ls hl => ?_)
  refine lv_aload_n C.1 C.2.1 dX11_first_9 rfl (lv_at hl 1 rfl) ?_
  refine z_get C (v := .ref (ad 0)) hR rfl bi_wsX110 2 (by decide) zw_1_20 rfl rfl dX11_first_10 ?_
  refine lv_iload_n C.1 C.2.1 dX11_first_13 rfl (lv_at hl 2 rfl) ?_
  refine lv_iload_n C.1 C.2.1 dX11_first_14 rfl (lv_at hl 3 rfl) ?_
  refine z_readV C (As := [zN k, zV u]) (rest := []) (c_insP1 l Z hM hx3 hnm hb k hk u (by omega)) hM.img rfl ⟨⟨zw_38_11, zw_1_18, zw_38_8⟩, zd_X2_instructionPlace⟩ zw_38_9 zw_38_10 ⟨Nat.le_of_ble_eq_true rfl, Nat.le_of_ble_eq_true rfl⟩ ⟨rfl, rfl⟩ rfl hl.1 rfl (Nat.le_of_ble_eq_true rfl) dX11_first_15 ⟨Nat.zero_le _, Nat.zero_le _⟩ hS (fun locs hS => ?_)
  refine z_re (y := zI (-1)) (by unfold inP; rw [if_neg (fun z => hno (by have := z.2; rw [Int.toNat_natCast] at this; exact this))]) ?_
  refine lv_istore (lv' := [(4, zV (-1)), (3, .ref (ad (16 + k))), (0, .ref o), (1, zN k), (2, zV u)]) C.1 C.2.1 dX11_first_18 hl (by decide) rfl (fun ls hl => ?_)
  refine lv_aload_n C.1 C.2.1 dX11_first_20 rfl (lv_at hl 1 rfl) ?_
  refine lv_ifnull C.1 C.2.1 dX11_first_21 ?_
  refine lv_iload C.1 C.2.1 dX11_first_24 (lv_at hl 0 rfl) ?_
  refine lv_iconst (v := zI (-1)) C.1 C.2.1 dX11_first_26 (by decide) ?_
  refine y_icmp_ne (tgt := 32) C (a := -1) (b := -1) dX11_first_27 (by decide) (by omega) (fun h27 => ?_) (fun h27 => ?_)
  · exact False.elim (by first | omega | exact h27 rfl)
  · refine lv_iconst (v := zI 0) C.1 C.2.1 dX11_first_30 (by decide) ?_
    exact hret _ _ _ _ (zI 0) hS ⟨rfl, rfl⟩ rfl dX11_first_31

set_option maxHeartbeats 4000000 in
set_option maxRecDepth 20000 in
theorem c_firstB0 (l : Launch) (Z : zT) {H : Heap} {ad : Nat → Nat} {τ : mS} {X : List (Nat × va_E)} (hM : isC Z H ad τ X) {o v0 a0 : Nat} {kn fd : Int} (hR : zAt Z H o (.inr (7, rF v0 a0 (ad 0) kn fd))) {nm : Nat} (hx3 : τ.1 3 = zI (nm : Int)) (hnm : nm ≤ 24) {fr rn : Nat → Nat} (hb : ∀ j, j < nm → τ.2.1 28 j = zI (fr j : Int) ∧ τ.2.1 29 j = zI (rn j : Int) ∧ fr j + rn j ≤ 16000) (t : Int) (ht : -2147483648 ≤ t ∧ t ≤ 2147483647) (hk : ¬ (0 ≤ t ∧ t < (nm : Int))) (u : Int) : zP l Z yX11_first cX11_first 5 (some .int) (rmk 6) [.ref o, zV t, zV u] H (zN 0) := by
  refine zM.introI (own := RX11) ⟨by decide, rfl⟩ (Nat.le_of_ble_eq_true rfl) ?_
  intro p e s m args below meth c Q ls hH C hl hret
  have hS : va_S (fun _ => False) s.heap H [] := by rw [hH]; exact va_S.rf
  have hl : lv_has ls 5 [(0, .ref o), (1, zV t), (2, zV u)] := hl
  refine lv_aload_n C.1 C.2.1 dX11_first_0 rfl (lv_at hl 0 rfl) ?_
  refine z_get C (v := .ref (ad 0)) hR rfl bi_wsX110 2 (by decide) zw_1_20 rfl rfl dX11_first_1 ?_
  refine lv_iload_n C.1 C.2.1 dX11_first_4 rfl (lv_at hl 1 rfl) ?_
  refine z_readV C (As := [zV t]) (rest := []) (c_bodyOf0 l Z hM hx3 hnm t (by omega) (by omega)) hM.img rfl ⟨⟨zw_16_18, zw_1_18, zw_37_19⟩, zd_X2_bodyOf⟩ zw_16_16 zw_16_17 ⟨Nat.le_of_ble_eq_true rfl, Nat.le_of_ble_eq_true rfl⟩ ⟨rfl, rfl⟩ rfl hl.1 rfl (Nat.le_of_ble_eq_true rfl) dX11_first_5 ⟨Nat.zero_le _, Nat.zero_le _⟩ hS (fun locs hS => ?_)
  refine lv_astore_nN (lv' := [(3, .null), (0, .ref o), (1, zV t), (2, zV u)]) C.1 C.2.1 dX11_first_8 rfl hl (by decide) rfl (fun ls hl => ?_)
  refine lv_aload_n C.1 C.2.1 dX11_first_9 rfl (lv_at hl 1 rfl) ?_
  refine z_get C (v := .ref (ad 0)) hR rfl bi_wsX110 2 (by decide) zw_1_20 rfl rfl dX11_first_10 ?_
  refine lv_iload_n C.1 C.2.1 dX11_first_13 rfl (lv_at hl 2 rfl) ?_
  refine lv_iload_n C.1 C.2.1 dX11_first_14 rfl (lv_at hl 3 rfl) ?_
  refine z_readV C (As := [zV t, zV u]) (rest := []) (c_insP0 l Z hM hx3 hnm hb t (by omega) hk u) hM.img rfl ⟨⟨zw_38_11, zw_1_18, zw_38_8⟩, zd_X2_instructionPlace⟩ zw_38_9 zw_38_10 ⟨Nat.le_of_ble_eq_true rfl, Nat.le_of_ble_eq_true rfl⟩ ⟨rfl, rfl⟩ rfl hl.1 rfl (Nat.le_of_ble_eq_true rfl) dX11_first_15 ⟨Nat.zero_le _, Nat.zero_le _⟩ hS (fun locs hS => ?_)
  refine z_re (y := zI (-1)) (by unfold inP; rw [if_neg (fun z => hk z.1)]) ?_
  refine lv_istore (lv' := [(4, zV (-1)), (3, .null), (0, .ref o), (1, zV t), (2, zV u)]) C.1 C.2.1 dX11_first_18 hl (by decide) rfl (fun ls hl => ?_)
  refine lv_aload_nN C.1 C.2.1 dX11_first_20 rfl (lv_at hl 1 rfl) ?_
  refine lv_ifnullN (tgt := 30) C.1 C.2.1 dX11_first_21 (by decide) ?_
  refine lv_iconst (v := zI 0) C.1 C.2.1 dX11_first_30 (by decide) ?_
  exact hret _ _ _ _ (zI 0) hS ⟨rfl, rfl⟩ rfl dX11_first_31

set_option maxHeartbeats 4000000 in
set_option maxRecDepth 20000 in
theorem c_targetB1 (l : Launch) (Z : zT) {H : Heap} {ad : Nat → Nat} {τ : mS} {X : List (Nat × va_E)} (hM : isC Z H ad τ X) {o v0 a0 : Nat} {kn fd : Int} (hR : zAt Z H o (.inr (7, rF v0 a0 (ad 0) kn fd))) {nm : Nat} (hx3 : τ.1 3 = zI (nm : Int)) (hnm : nm ≤ 24) {fr rn : Nat → Nat} (hb : ∀ j, j < nm → τ.2.1 28 j = zI (fr j : Int) ∧ τ.2.1 29 j = zI (rn j : Int) ∧ fr j + rn j ≤ 16000) (k : Nat) (hk : k < nm) (u : Int) (hu : -2147483648 ≤ u ∧ u ≤ 2147483647) (hno : ¬ (0 ≤ u ∧ u < (rn k : Int))) (w : Int) (hw : -2147483648 ≤ w ∧ w ≤ 2147483647) : zP l Z yX11_target cX11_target 6 (some .int) (rmk 6) [.ref o, zN k, zV u, zV w] H (zV (-1)) := by
  refine zM.introI (own := RX11) ⟨by decide, rfl⟩ (Nat.le_of_ble_eq_true rfl) ?_
  intro p e s m args below meth c Q ls hH C hl hret
  have hS : va_S (fun _ => False) s.heap H [] := by rw [hH]; exact va_S.rf
  have hl : lv_has ls 6 [(0, .ref o), (1, zN k), (2, zV u), (3, zV w)] := hl
  refine lv_aload_n C.1 C.2.1 dX11_target_0 rfl (lv_at hl 0 rfl) ?_
  refine z_get C (v := .ref (ad 0)) hR rfl bi_wsX110 2 (by decide) zw_1_20 rfl rfl dX11_target_1 ?_
  refine lv_iload_n C.1 C.2.1 dX11_target_4 rfl (lv_at hl 1 rfl) ?_
  refine z_readV C (As := [zN k]) (rest := []) (c_bodyOf l Z hM hx3 hnm k rfl (by omega)) hM.img rfl ⟨⟨zw_16_18, zw_1_18, zw_37_19⟩, zd_X2_bodyOf⟩ zw_16_16 zw_16_17 ⟨Nat.le_of_ble_eq_true rfl, Nat.le_of_ble_eq_true rfl⟩ ⟨rfl, rfl⟩ rfl hl.1 rfl (Nat.le_of_ble_eq_true rfl) dX11_target_5 ⟨Nat.zero_le _, Nat.zero_le _⟩ hS (fun locs hS => ?_)
  refine lv_astore (lv' := [(4, .ref (ad (16 + k))), (0, .ref o), (1, zN k), (2, zV u), (3, zV w)]) C.1 C.2.1 dX11_target_8 hl (by decide) rfl (fun ls hl => ?_)
  refine lv_aload_n C.1 C.2.1 dX11_target_10 rfl (lv_at hl 1 rfl) ?_
  refine z_get C (v := .ref (ad 0)) hR rfl bi_wsX110 2 (by decide) zw_1_20 rfl rfl dX11_target_11 ?_
  refine lv_iload_n C.1 C.2.1 dX11_target_14 rfl (lv_at hl 2 rfl) ?_
  refine lv_iload_n C.1 C.2.1 dX11_target_15 rfl (lv_at hl 3 rfl) ?_
  refine z_readV C (As := [zN k, zV u]) (rest := []) (c_insP1 l Z hM hx3 hnm hb k hk u (by omega)) hM.img rfl ⟨⟨zw_38_11, zw_1_18, zw_38_8⟩, zd_X2_instructionPlace⟩ zw_38_9 zw_38_10 ⟨Nat.le_of_ble_eq_true rfl, Nat.le_of_ble_eq_true rfl⟩ ⟨rfl, rfl⟩ rfl hl.1 rfl (Nat.le_of_ble_eq_true rfl) dX11_target_16 ⟨Nat.zero_le _, Nat.zero_le _⟩ hS (fun locs hS => ?_)
  refine z_re (y := zI (-1)) (by unfold inP; rw [if_neg (fun z => hno (by have := z.2; rw [Int.toNat_natCast] at this; exact this))]) ?_
  refine lv_istore (lv' := [(5, zV (-1)), (4, .ref (ad (16 + k))), (0, .ref o), (1, zN k), (2, zV u), (3, zV w)]) C.1 C.2.1 dX11_target_19 hl (by decide) rfl (fun ls hl => ?_)
  refine lv_aload C.1 C.2.1 dX11_target_21 (lv_at hl 1 rfl) ?_
  refine lv_ifnull C.1 C.2.1 dX11_target_23 ?_
  refine lv_iload C.1 C.2.1 dX11_target_26 (lv_at hl 0 rfl) ?_
  refine lv_iconst (v := zI (-1)) C.1 C.2.1 dX11_target_28 (by decide) ?_
  refine y_icmp_ne (tgt := 34) C (a := -1) (b := -1) dX11_target_29 (by decide) (by omega) (fun h29 => ?_) (fun h29 => ?_)
  · exact False.elim (by first | omega | exact h29 rfl)
  · refine lv_iconst (v := zI (-1)) C.1 C.2.1 dX11_target_32 (by decide) ?_
    exact hret _ _ _ _ (zI (-1)) hS ⟨rfl, rfl⟩ rfl dX11_target_33

set_option maxHeartbeats 4000000 in
set_option maxRecDepth 20000 in
theorem c_targetB0 (l : Launch) (Z : zT) {H : Heap} {ad : Nat → Nat} {τ : mS} {X : List (Nat × va_E)} (hM : isC Z H ad τ X) {o v0 a0 : Nat} {kn fd : Int} (hR : zAt Z H o (.inr (7, rF v0 a0 (ad 0) kn fd))) {nm : Nat} (hx3 : τ.1 3 = zI (nm : Int)) (hnm : nm ≤ 24) {fr rn : Nat → Nat} (hb : ∀ j, j < nm → τ.2.1 28 j = zI (fr j : Int) ∧ τ.2.1 29 j = zI (rn j : Int) ∧ fr j + rn j ≤ 16000) (t : Int) (ht : -2147483648 ≤ t ∧ t ≤ 2147483647) (hk : ¬ (0 ≤ t ∧ t < (nm : Int))) (u : Int) (w : Int) (hw : -2147483648 ≤ w ∧ w ≤ 2147483647) : zP l Z yX11_target cX11_target 6 (some .int) (rmk 6) [.ref o, zV t, zV u, zV w] H (zV (-1)) := by
  refine zM.introI (own := RX11) ⟨by decide, rfl⟩ (Nat.le_of_ble_eq_true rfl) ?_
  intro p e s m args below meth c Q ls hH C hl hret
  have hS : va_S (fun _ => False) s.heap H [] := by rw [hH]; exact va_S.rf
  have hl : lv_has ls 6 [(0, .ref o), (1, zV t), (2, zV u), (3, zV w)] := hl
  refine lv_aload_n C.1 C.2.1 dX11_target_0 rfl (lv_at hl 0 rfl) ?_
  refine z_get C (v := .ref (ad 0)) hR rfl bi_wsX110 2 (by decide) zw_1_20 rfl rfl dX11_target_1 ?_
  refine lv_iload_n C.1 C.2.1 dX11_target_4 rfl (lv_at hl 1 rfl) ?_
  refine z_readV C (As := [zV t]) (rest := []) (c_bodyOf0 l Z hM hx3 hnm t (by omega) (by omega)) hM.img rfl ⟨⟨zw_16_18, zw_1_18, zw_37_19⟩, zd_X2_bodyOf⟩ zw_16_16 zw_16_17 ⟨Nat.le_of_ble_eq_true rfl, Nat.le_of_ble_eq_true rfl⟩ ⟨rfl, rfl⟩ rfl hl.1 rfl (Nat.le_of_ble_eq_true rfl) dX11_target_5 ⟨Nat.zero_le _, Nat.zero_le _⟩ hS (fun locs hS => ?_)
  refine lv_astoreN (lv' := [(4, .null), (0, .ref o), (1, zV t), (2, zV u), (3, zV w)]) C.1 C.2.1 dX11_target_8 hl (by decide) rfl (fun ls hl => ?_)
  refine lv_aload_n C.1 C.2.1 dX11_target_10 rfl (lv_at hl 1 rfl) ?_
  refine z_get C (v := .ref (ad 0)) hR rfl bi_wsX110 2 (by decide) zw_1_20 rfl rfl dX11_target_11 ?_
  refine lv_iload_n C.1 C.2.1 dX11_target_14 rfl (lv_at hl 2 rfl) ?_
  refine lv_iload_n C.1 C.2.1 dX11_target_15 rfl (lv_at hl 3 rfl) ?_
  refine z_readV C (As := [zV t, zV u]) (rest := []) (c_insP0 l Z hM hx3 hnm hb t (by omega) hk u) hM.img rfl ⟨⟨zw_38_11, zw_1_18, zw_38_8⟩, zd_X2_instructionPlace⟩ zw_38_9 zw_38_10 ⟨Nat.le_of_ble_eq_true rfl, Nat.le_of_ble_eq_true rfl⟩ ⟨rfl, rfl⟩ rfl hl.1 rfl (Nat.le_of_ble_eq_true rfl) dX11_target_16 ⟨Nat.zero_le _, Nat.zero_le _⟩ hS (fun locs hS => ?_)
  refine z_re (y := zI (-1)) (by unfold inP; rw [if_neg (fun z => hk z.1)]) ?_
  refine lv_istore (lv' := [(5, zV (-1)), (4, .null), (0, .ref o), (1, zV t), (2, zV u), (3, zV w)]) C.1 C.2.1 dX11_target_19 hl (by decide) rfl (fun ls hl => ?_)
  refine lv_aloadN C.1 C.2.1 dX11_target_21 (lv_at hl 1 rfl) ?_
  refine lv_ifnullN (tgt := 32) C.1 C.2.1 dX11_target_23 (by decide) ?_
  refine lv_iconst (v := zI (-1)) C.1 C.2.1 dX11_target_32 (by decide) ?_
  exact hret _ _ _ _ (zI (-1)) hS ⟨rfl, rfl⟩ rfl dX11_target_33

set_option maxHeartbeats 4000000 in
set_option maxRecDepth 20000 in
theorem c_firstA (l : Launch) (Z : zT) {H : Heap} {ad : Nat → Nat} {τ : mS} {X : List (Nat × va_E)} (hM : isC Z H ad τ X) {o v0 a0 : Nat} {kn fd : Int} (hR : zAt Z H o (.inr (7, rF v0 a0 (ad 0) kn fd))) {F : Nat → Nat} {n : Nat} (hB : cSrc τ F n) {nm : Nat} (hx3 : τ.1 3 = zI (nm : Int)) (hnm : nm ≤ 24) {fr rn : Nat → Nat} (hb : ∀ j, j < nm → τ.2.1 28 j = zI (fr j : Int) ∧ τ.2.1 29 j = zI (rn j : Int) ∧ fr j + rn j ≤ 16000) {ca sz ml ch cn f0 N bm : Nat} (hm : cMt τ F n ca sz ml ch cn f0 N bm) (hbn : bm < nm) (hfr : fr bm = f0) (hrn : rn bm = N) {i : Nat} (hi : i < N) {tb mt : Nat → Nat} {cl nf : Nat} (hP : cPl τ F tb (U2 F 8)) (hmb : ∀ k, 1 ≤ k → k < U2 F 8 → τ.2.1 10 k = zI (mbC F tb mt cl nf nm k)) (hnfm : nf + nm ≤ 48) (hpp : pPl F n tb (U2 F 8)) (hok : insOk F tb mt cl nf nm ca sz ml (nbR F ca sz N) (stF F ca sz i) (F (ca + stF F ca sz i)) = true) : zP l Z yX11_first cX11_first 5 (some .int) (rmk 6) [.ref o, zN bm, zN i] H (zV (fiC F tb mt cl nf nm ca sz N (stF F ca sz i))) := by
  have hn := hB.2.2.2
  obtain ⟨m1, m2, m3, m4, m5, m6, m7, m8, m9, m10, m11, m12, m13, m14⟩ := id hm
  have hst := m4.2 i hi
  have hNs := isWh_le m4
  refine zM.introI (own := RX11) ⟨by decide, rfl⟩ (Nat.le_of_ble_eq_true rfl) ?_
  intro p e s m args below meth c Q ls hH C hl hret
  have hS : va_S (fun _ => False) s.heap H [] := by rw [hH]; exact va_S.rf
  have hl : lv_has ls 5 [(0, .ref o), (1, zN bm), (2, zN i)] := hl
  refine lv_aload_n C.1 C.2.1 dX11_first_0 rfl (lv_at hl 0 rfl) ?_
  refine z_get C (v := .ref (ad 0)) hR rfl bi_wsX110 2 (by decide) zw_1_20 rfl rfl dX11_first_1 ?_
  refine lv_iload_n C.1 C.2.1 dX11_first_4 rfl (lv_at hl 1 rfl) ?_
  refine z_readV C (As := [zN bm]) (rest := []) (c_bodyOf l Z hM hx3 hnm bm rfl (by omega)) hM.img rfl ⟨⟨zw_16_18, zw_1_18, zw_37_19⟩, zd_X2_bodyOf⟩ zw_16_16 zw_16_17 ⟨Nat.le_of_ble_eq_true rfl, Nat.le_of_ble_eq_true rfl⟩ ⟨rfl, rfl⟩ rfl hl.1 rfl (Nat.le_of_ble_eq_true rfl) dX11_first_5 ⟨Nat.zero_le _, Nat.zero_le _⟩ hS (fun locs hS => ?_)
  refine lv_astore_n (lv' := [(3, .ref (ad (16 + bm))), (0, .ref o), (1, zN bm), (2, zN i)]) C.1 C.2.1 dX11_first_8 rfl hl (by decide) rfl (fun ls hl => ?_)
  refine lv_aload_n C.1 C.2.1 dX11_first_9 rfl (lv_at hl 1 rfl) ?_
  refine z_get C (v := .ref (ad 0)) hR rfl bi_wsX110 2 (by decide) zw_1_20 rfl rfl dX11_first_10 ?_
  refine lv_iload_n C.1 C.2.1 dX11_first_13 rfl (lv_at hl 2 rfl) ?_
  refine lv_iload_n C.1 C.2.1 dX11_first_14 rfl (lv_at hl 3 rfl) ?_
  refine z_readV C (As := [zN bm, zN i]) (rest := []) (c_insP1 l Z hM hx3 hnm hb bm hbn (i : Int) (by omega)) hM.img rfl ⟨⟨zw_38_11, zw_1_18, zw_38_8⟩, zd_X2_instructionPlace⟩ zw_38_9 zw_38_10 ⟨Nat.le_of_ble_eq_true rfl, Nat.le_of_ble_eq_true rfl⟩ ⟨rfl, rfl⟩ rfl hl.1 rfl (Nat.le_of_ble_eq_true rfl) dX11_first_15 ⟨Nat.zero_le _, Nat.zero_le _⟩ hS (fun locs hS => ?_)
  refine z_re (y := zI ((ca + stF F ca sz i : Nat) : Int)) (by unfold inP; rw [if_pos ⟨by omega, by omega, by rw [Int.toNat_natCast, hrn]; omega⟩, Int.toNat_natCast, Int.toNat_natCast, hfr]; exact m14 i hi) ?_
  refine lv_istore (lv' := [(4, zN (ca + stF F ca sz i)), (3, .ref (ad (16 + bm))), (0, .ref o), (1, zN bm), (2, zN i)]) C.1 C.2.1 dX11_first_18 hl (by decide) rfl (fun ls hl => ?_)
  refine lv_aload_n C.1 C.2.1 dX11_first_20 rfl (lv_at hl 1 rfl) ?_
  refine lv_ifnull C.1 C.2.1 dX11_first_21 ?_
  refine lv_iload C.1 C.2.1 dX11_first_24 (lv_at hl 0 rfl) ?_
  refine lv_iconst (v := zI (-1)) C.1 C.2.1 dX11_first_26 (by decide) ?_
  refine y_icmp_ne (tgt := 32) C (a := ((ca + stF F ca sz i : Nat) : Int)) (b := -1) dX11_first_27 (by decide) (by omega) (fun h27 => ?_) (fun h27 => ?_)
  · refine lv_aload_n C.1 C.2.1 dX11_first_32 rfl (lv_at hl 2 rfl) ?_
    refine z_get C (v := .ref (ad 0)) hR rfl bi_wsX110 2 (by decide) zw_1_20 rfl rfl dX11_first_33 ?_
    refine lv_aload_n C.1 C.2.1 dX11_first_36 rfl (lv_at hl 1 rfl) ?_
    refine lv_iload C.1 C.2.1 dX11_first_37 (lv_at hl 0 rfl) ?_
    refine z_readS C (As := [.ref (ad 0), .ref (ad (16 + bm)), zN (ca + stF F ca sz i)]) (rest := []) (c_X5_firstNumber l Z hM hB hm hP hmb hnfm (q := stF F ca sz i) hst.1 hst.2 hpp hok) ⟨⟨zw_39_4, zw_20_6, zw_39_2⟩, zd_X5_firstNumber⟩ zw_39_3 ⟨Nat.le_of_ble_eq_true rfl, Nat.le_of_ble_eq_true rfl⟩ ⟨rfl, rfl⟩ rfl hl.1 rfl (Nat.le_of_ble_eq_true rfl) dX11_first_39 ⟨Nat.zero_le _, Nat.zero_le _⟩ hS (fun locs hS => ?_)
    exact hret _ _ _ _ (zI (fiC F tb mt cl nf nm ca sz N (stF F ca sz i))) hS ⟨rfl, rfl⟩ rfl dX11_first_42
  · exact False.elim (by first | omega | exact h27 rfl)

set_option maxHeartbeats 4000000 in
set_option maxRecDepth 20000 in
theorem c_tc0 (l : Launch) (Z : zT) {H : Heap} {ad : Nat → Nat} {τ : mS} {X : List (Nat × va_E)} (hM : isC Z H ad τ X) {F : Nat → Nat} {n : Nat} (hB : cSrc τ F n) {ca q : Nat} (hk : ca + q < n) (hns : F (ca + q) ≠ 170 ∧ F (ca + q) ≠ 171) : zP l Z yX3_targetCount cX3_targetCount 4 (some .int) (rmk 3) [.ref (ad 1), zN (ca + q), zN ca] H (zN 0) := by
  have hn := hB.2.2.2
  have hFk := hB.1 (ca + q)
  refine zM.introI (own := RX3) ⟨by decide, rfl⟩ (Nat.le_of_ble_eq_true rfl) ?_
  intro p e s m args below meth c Q ls hH C hl hret
  have hS : va_S (fun _ => False) s.heap H [] := by rw [hH]; exact va_S.rf
  have hl : lv_has ls 4 [(0, .ref (ad 1)), (1, zN (ca + q)), (2, zN ca)] := hl
  refine lv_iload_n C.1 C.2.1 dX3_targetCount_0 rfl (lv_at hl 1 rfl) ?_
  refine lv_iload_n C.1 C.2.1 dX3_targetCount_1 rfl (lv_at hl 2 rfl) ?_
  refine z_readS C (As := [zN (ca + q), zN ca]) (rest := []) (c_X3_switchHead l Z (ca := ca) (k := q) (by omega)) ⟨⟨zw_21_8, zw_20_22, zw_21_6⟩, zd_X3_switchHead⟩ zw_21_7 ⟨Nat.le_of_ble_eq_true rfl, Nat.le_of_ble_eq_true rfl⟩ ⟨rfl, rfl⟩ rfl hl.1 rfl (Nat.le_of_ble_eq_true rfl) dX3_targetCount_2 ⟨Nat.zero_le _, Nat.zero_le _⟩ hS (fun locs hS => ?_)
  have hsw : swF q ≤ q + 4 ∧ q + 1 ≤ swF q := by unfold swF; omega
  refine lv_istore_n (lv' := [(3, zN (ca + swF q)), (0, .ref (ad 1)), (1, zN (ca + q)), (2, zN ca)]) C.1 C.2.1 dX3_targetCount_5 rfl hl (by decide) rfl (fun ls hl => ?_)
  refine lv_aload_n C.1 C.2.1 dX3_targetCount_6 rfl (lv_at hl 1 rfl) ?_
  refine lv_iload_n C.1 C.2.1 dX3_targetCount_7 rfl (lv_at hl 2 rfl) ?_
  refine z_readV C (As := [zN (ca + q)]) (rest := []) (c_u1 l Z hM hB (ca + q) rfl (by omega)) hM.byt rfl ⟨⟨zw_9_12, zw_2_15, zw_21_1⟩, zd_X1_u1⟩ zw_9_10 zw_9_11 ⟨Nat.le_of_ble_eq_true rfl, Nat.le_of_ble_eq_true rfl⟩ ⟨rfl, rfl⟩ rfl hl.1 rfl (Nat.le_of_ble_eq_true rfl) dX3_targetCount_8 ⟨Nat.zero_le _, Nat.zero_le _⟩ hS (fun locs hS => ?_)
  have := hB.1 (ca + q)
  rcases (show ((F (ca + q) : Nat) : Int) = 170 ∨ ((F (ca + q) : Nat) : Int) = 171 ∨ (((F (ca + q) : Nat) : Int) ≠ 170 ∧ ((F (ca + q) : Nat) : Int) ≠ 171) by omega) with h11 | h11 | h11
  · refine y_lookIn C 170 h11 dX3_targetCount_11 (by decide) (by decide) (off := 25) (by decide) (tgt := 36) (by decide) ?_
    refine lv_aload_n C.1 C.2.1 dX3_targetCount_36 rfl (lv_at hl 1 rfl) ?_
    refine lv_iload_n C.1 C.2.1 dX3_targetCount_37 rfl (lv_at hl 0 rfl) ?_
    refine lv_bipush (v := zI 8) C.1 C.2.1 dX3_targetCount_38 (by decide) ?_
    refine y_iaddN C (a := ca + swF q) (b := 8) dX3_targetCount_40 ?_
    refine z_readV C (As := [zN ((ca + swF q) + 8)]) (rest := []) (c_X1_s4 l Z hM hB (((ca + swF q) + 8 : Nat) : Int) (by omega)) hM.byt rfl ⟨⟨zw_13_1, zw_2_15, zw_21_9⟩, zd_X1_s4⟩ zw_12_23 zw_13_0 ⟨Nat.le_of_ble_eq_true rfl, Nat.le_of_ble_eq_true rfl⟩ ⟨rfl, rfl⟩ rfl hl.1 rfl (Nat.le_of_ble_eq_true rfl) dX3_targetCount_41 ⟨Nat.zero_le _, Nat.zero_le _⟩ hS (fun locs hS => ?_)
    have hb41 := B4_rg hB.1 n (((ca + swF q) + 8 : Nat) : Int)
    refine lv_aload_n C.1 C.2.1 dX3_targetCount_44 rfl (lv_at hl 1 rfl) ?_
    refine lv_iload_n C.1 C.2.1 dX3_targetCount_45 rfl (lv_at hl 0 rfl) ?_
    refine lv_iconst (v := zI 4) C.1 C.2.1 dX3_targetCount_46 (by decide) ?_
    refine y_iaddN C (a := ca + swF q) (b := 4) dX3_targetCount_47 ?_
    refine z_readV C (As := [zN ((ca + swF q) + 4)]) (rest := [zV (B4 F n (((ca + swF q) + 8 : Nat) : Int))]) (c_X1_s4 l Z hM hB (((ca + swF q) + 4 : Nat) : Int) (by omega)) hM.byt rfl ⟨⟨zw_13_1, zw_2_15, zw_21_9⟩, zd_X1_s4⟩ zw_12_23 zw_13_0 ⟨Nat.le_of_ble_eq_true rfl, Nat.le_of_ble_eq_true rfl⟩ ⟨rfl, rfl⟩ rfl hl.1 rfl (Nat.le_of_ble_eq_true rfl) dX3_targetCount_48 ⟨Nat.zero_le _, Nat.zero_le _⟩ hS (fun locs hS => ?_)
    have hb48 := B4_rg hB.1 n (((ca + swF q) + 4 : Nat) : Int)
    refine y_isub C (a := B4 F n (((ca + swF q) + 8 : Nat) : Int)) (b := B4 F n (((ca + swF q) + 4 : Nat) : Int)) dX3_targetCount_51 ?_
    refine lv_iconst (v := zI 2) C.1 C.2.1 dX3_targetCount_52 (by decide) ?_
    refine y_iadd C (a := (B4 F n (((ca + swF q) + 8 : Nat) : Int)) - (B4 F n (((ca + swF q) + 4 : Nat) : Int))) (b := 2) dX3_targetCount_53 ?_
    exact hret _ _ _ _ (zI (((B4 F n (((ca + swF q) + 8 : Nat) : Int)) - (B4 F n (((ca + swF q) + 4 : Nat) : Int))) + 2)) hS ⟨congrArg (fun x : Int => some (zV x)) (by omega), rfl⟩ rfl dX3_targetCount_54
  · refine y_lookIn C 171 h11 dX3_targetCount_11 (by decide) (by decide) (off := 44) (by decide) (tgt := 55) (by decide) ?_
    refine lv_aload_n C.1 C.2.1 dX3_targetCount_55 rfl (lv_at hl 1 rfl) ?_
    refine lv_iload_n C.1 C.2.1 dX3_targetCount_56 rfl (lv_at hl 0 rfl) ?_
    refine lv_iconst (v := zI 4) C.1 C.2.1 dX3_targetCount_57 (by decide) ?_
    refine y_iaddN C (a := ca + swF q) (b := 4) dX3_targetCount_58 ?_
    refine z_readV C (As := [zN ((ca + swF q) + 4)]) (rest := []) (c_X1_s4 l Z hM hB (((ca + swF q) + 4 : Nat) : Int) (by omega)) hM.byt rfl ⟨⟨zw_13_1, zw_2_15, zw_21_9⟩, zd_X1_s4⟩ zw_12_23 zw_13_0 ⟨Nat.le_of_ble_eq_true rfl, Nat.le_of_ble_eq_true rfl⟩ ⟨rfl, rfl⟩ rfl hl.1 rfl (Nat.le_of_ble_eq_true rfl) dX3_targetCount_59 ⟨Nat.zero_le _, Nat.zero_le _⟩ hS (fun locs hS => ?_)
    have hb59 := B4_rg hB.1 n (((ca + swF q) + 4 : Nat) : Int)
    refine lv_iconst (v := zI 1) C.1 C.2.1 dX3_targetCount_62 (by decide) ?_
    refine y_iadd C (a := B4 F n (((ca + swF q) + 4 : Nat) : Int)) (b := 1) dX3_targetCount_63 ?_
    exact hret _ _ _ _ (zI ((B4 F n (((ca + swF q) + 4 : Nat) : Int)) + 1)) hS ⟨congrArg (fun x : Int => some (zV x)) (by omega), rfl⟩ rfl dX3_targetCount_64
  · refine y_lookOut C (by omega) dX3_targetCount_11 (by decide) (fun q hq => by simp at hq; rcases hq with rfl | rfl <;> (dsimp only; omega)) (tgt := 65) (by decide) ?_
    refine lv_iconst (v := zI 0) C.1 C.2.1 dX3_targetCount_65 (by decide) ?_
    exact hret _ _ _ _ (zI 0) hS ⟨congrArg (fun x : Int => some (zV x)) (by omega), rfl⟩ rfl dX3_targetCount_66

set_option maxHeartbeats 4000000 in
set_option maxRecDepth 20000 in
theorem c_targetA0 (l : Launch) (Z : zT) {H : Heap} {ad : Nat → Nat} {τ : mS} {X : List (Nat × va_E)} (hM : isC Z H ad τ X) {o v0 a0 : Nat} {kn fd : Int} (hR : zAt Z H o (.inr (7, rF v0 a0 (ad 0) kn fd))) {F : Nat → Nat} {n : Nat} (hB : cSrc τ F n) {nm : Nat} (hx3 : τ.1 3 = zI (nm : Int)) (hnm : nm ≤ 24) {fr rn : Nat → Nat} (hb : ∀ j, j < nm → τ.2.1 28 j = zI (fr j : Int) ∧ τ.2.1 29 j = zI (rn j : Int) ∧ fr j + rn j ≤ 16000) {ca sz ml ch cn f0 N bm : Nat} (hm : cMt τ F n ca sz ml ch cn f0 N bm) (hbn : bm < nm) (hfr : fr bm = f0) (hrn : rn bm = N) {i : Nat} (hi : i < N) (hns : F (ca + stF F ca sz i) ≠ 170 ∧ F (ca + stF F ca sz i) ≠ 171) (w : Int) (hw : -2147483648 ≤ w ∧ w ≤ 2147483647) : zP l Z yX11_target cX11_target 6 (some .int) (rmk 6) [.ref o, zN bm, zN i, zV w] H (zV (-1)) := by
  have hn := hB.2.2.2
  obtain ⟨m1, m2, m3, m4, m5, m6, m7, m8, m9, m10, m11, m12, m13, m14⟩ := id hm
  have hst := m4.2 i hi
  have hNs := isWh_le m4
  refine zM.introI (own := RX11) ⟨by decide, rfl⟩ (Nat.le_of_ble_eq_true rfl) ?_
  intro p e s m args below meth c Q ls hH C hl hret
  have hS : va_S (fun _ => False) s.heap H [] := by rw [hH]; exact va_S.rf
  have hl : lv_has ls 6 [(0, .ref o), (1, zN bm), (2, zN i), (3, zV w)] := hl
  refine lv_aload_n C.1 C.2.1 dX11_target_0 rfl (lv_at hl 0 rfl) ?_
  refine z_get C (v := .ref (ad 0)) hR rfl bi_wsX110 2 (by decide) zw_1_20 rfl rfl dX11_target_1 ?_
  refine lv_iload_n C.1 C.2.1 dX11_target_4 rfl (lv_at hl 1 rfl) ?_
  refine z_readV C (As := [zN bm]) (rest := []) (c_bodyOf l Z hM hx3 hnm bm rfl (by omega)) hM.img rfl ⟨⟨zw_16_18, zw_1_18, zw_37_19⟩, zd_X2_bodyOf⟩ zw_16_16 zw_16_17 ⟨Nat.le_of_ble_eq_true rfl, Nat.le_of_ble_eq_true rfl⟩ ⟨rfl, rfl⟩ rfl hl.1 rfl (Nat.le_of_ble_eq_true rfl) dX11_target_5 ⟨Nat.zero_le _, Nat.zero_le _⟩ hS (fun locs hS => ?_)
  refine lv_astore (lv' := [(4, .ref (ad (16 + bm))), (0, .ref o), (1, zN bm), (2, zN i), (3, zV w)]) C.1 C.2.1 dX11_target_8 hl (by decide) rfl (fun ls hl => ?_)
  refine lv_aload_n C.1 C.2.1 dX11_target_10 rfl (lv_at hl 1 rfl) ?_
  refine z_get C (v := .ref (ad 0)) hR rfl bi_wsX110 2 (by decide) zw_1_20 rfl rfl dX11_target_11 ?_
  refine lv_iload_n C.1 C.2.1 dX11_target_14 rfl (lv_at hl 2 rfl) ?_
  refine lv_iload_n C.1 C.2.1 dX11_target_15 rfl (lv_at hl 3 rfl) ?_
  refine z_readV C (As := [zN bm, zN i]) (rest := []) (c_insP1 l Z hM hx3 hnm hb bm hbn (i : Int) (by omega)) hM.img rfl ⟨⟨zw_38_11, zw_1_18, zw_38_8⟩, zd_X2_instructionPlace⟩ zw_38_9 zw_38_10 ⟨Nat.le_of_ble_eq_true rfl, Nat.le_of_ble_eq_true rfl⟩ ⟨rfl, rfl⟩ rfl hl.1 rfl (Nat.le_of_ble_eq_true rfl) dX11_target_16 ⟨Nat.zero_le _, Nat.zero_le _⟩ hS (fun locs hS => ?_)
  refine z_re (y := zI ((ca + stF F ca sz i : Nat) : Int)) (by unfold inP; rw [if_pos ⟨by omega, by omega, by rw [Int.toNat_natCast, hrn]; omega⟩, Int.toNat_natCast, Int.toNat_natCast, hfr]; exact m14 i hi) ?_
  refine lv_istore (lv' := [(5, zN (ca + stF F ca sz i)), (4, .ref (ad (16 + bm))), (0, .ref o), (1, zN bm), (2, zN i), (3, zV w)]) C.1 C.2.1 dX11_target_19 hl (by decide) rfl (fun ls hl => ?_)
  refine lv_aload C.1 C.2.1 dX11_target_21 (lv_at hl 1 rfl) ?_
  refine lv_ifnull C.1 C.2.1 dX11_target_23 ?_
  refine lv_iload C.1 C.2.1 dX11_target_26 (lv_at hl 0 rfl) ?_
  refine lv_iconst (v := zI (-1)) C.1 C.2.1 dX11_target_28 (by decide) ?_
  refine y_icmp_ne (tgt := 34) C (a := ((ca + stF F ca sz i : Nat) : Int)) (b := -1) dX11_target_29 (by decide) (by omega) (fun h29 => ?_) (fun h29 => ?_)
  · refine lv_iload_n C.1 C.2.1 dX11_target_34 rfl (lv_at hl 5 rfl) ?_
    refine y_if_lt (tgt := 59) C (a := w) dX11_target_35 (by decide) (by omega) (fun h35 => ?_) (fun h35 => ?_)
    · refine lv_iconst (v := zI (-1)) C.1 C.2.1 dX11_target_59 (by decide) ?_
      exact hret _ _ _ _ (zI (-1)) hS ⟨rfl, rfl⟩ rfl dX11_target_60
    · refine lv_iload_n C.1 C.2.1 dX11_target_38 rfl (lv_at hl 5 rfl) ?_
      refine lv_aload_n C.1 C.2.1 dX11_target_39 rfl (lv_at hl 2 rfl) ?_
      refine z_get C (v := .ref (ad 0)) hR rfl bi_wsX110 2 (by decide) zw_1_20 rfl rfl dX11_target_40 ?_
      refine z_get C (v := .ref (ad 1)) hM.img rfl bi_wsX20 0 (by decide) zw_6_9 rfl rfl dX11_target_43 ?_
      refine lv_iload C.1 C.2.1 dX11_target_46 (lv_at hl 0 rfl) ?_
      refine lv_aload C.1 C.2.1 dX11_target_48 (lv_at hl 1 rfl) ?_
      refine z_get C (v := .int (τ.2.1 24 bm)) (hM.bod bm (by omega)) rfl bi_wsX00 4 (by decide) zw_40_3 rfl rfl dX11_target_50 ?_
      refine z_re (y := zI ((ca : Nat) : Int)) m8 ?_
      refine z_readS C (As := [.ref (ad 1), zN (ca + stF F ca sz i), zN ca]) (rest := [zV w]) (c_tc0 l Z hM hB (ca := ca) (q := stF F ca sz i) (by omega) hns) ⟨⟨zw_24_14, zw_20_22, zw_40_4⟩, zd_X3_targetCount⟩ zw_24_13 ⟨Nat.le_of_ble_eq_true rfl, Nat.le_of_ble_eq_true rfl⟩ ⟨rfl, rfl⟩ rfl hl.1 rfl (Nat.le_of_ble_eq_true rfl) dX11_target_53 ⟨Nat.zero_le _, Nat.zero_le _⟩ hS (fun locs hS => ?_)
      refine y_icmp_lt (tgt := 61) C (a := w) (b := 0) dX11_target_56 (by decide) (by omega) (fun h56 => ?_) (fun h56 => ?_)
      · exact False.elim (by omega)
      · refine lv_iconst (v := zI (-1)) C.1 C.2.1 dX11_target_59 (by decide) ?_
        exact hret _ _ _ _ (zI (-1)) hS ⟨rfl, rfl⟩ rfl dX11_target_60
  · exact False.elim (by first | omega | exact h29 rfl)

set_option maxHeartbeats 4000000 in
set_option maxRecDepth 20000 in
theorem c_targetA1 (l : Launch) (Z : zT) {H : Heap} {ad : Nat → Nat} {τ : mS} {X : List (Nat × va_E)} (hM : isC Z H ad τ X) {o v0 a0 : Nat} {kn fd : Int} (hR : zAt Z H o (.inr (7, rF v0 a0 (ad 0) kn fd))) {F : Nat → Nat} {n : Nat} (hB : cSrc τ F n) {nm : Nat} (hx3 : τ.1 3 = zI (nm : Int)) (hnm : nm ≤ 24) {fr rn : Nat → Nat} (hb : ∀ j, j < nm → τ.2.1 28 j = zI (fr j : Int) ∧ τ.2.1 29 j = zI (rn j : Int) ∧ fr j + rn j ≤ 16000) {ca sz ml ch cn f0 N bm : Nat} (hm : cMt τ F n ca sz ml ch cn f0 N bm) (hbn : bm < nm) (hfr : fr bm = f0) (hrn : rn bm = N) {i : Nat} (hi : i < N) {M : Nat} (hsI : swIn F n ca (stF F ca sz i) M) (w : Int) (hw : -2147483648 ≤ w ∧ w ≤ 2147483647) : zP l Z yX11_target cX11_target 6 (some .int) (rmk 6) [.ref o, zN bm, zN i, zV w] H (zV (if 0 ≤ w ∧ w ≤ (M : Int) then numC F ca sz N (((stF F ca sz i : Nat) : Int) + tgP F ca (stF F ca sz i) w.toNat) else -1)) := by
  have hn := hB.2.2.2
  obtain ⟨m1, m2, m3, m4, m5, m6, m7, m8, m9, m10, m11, m12, m13, m14⟩ := id hm
  have hst := m4.2 i hi
  have hNs := isWh_le m4
  have hM201 : M ≤ 201 := by unfold swIn at hsI; omega
  refine zM.introI (own := RX11) ⟨by decide, rfl⟩ (Nat.le_of_ble_eq_true rfl) ?_
  intro p e s m args below meth c Q ls hH C hl hret
  have hS : va_S (fun _ => False) s.heap H [] := by rw [hH]; exact va_S.rf
  have hl : lv_has ls 6 [(0, .ref o), (1, zN bm), (2, zN i), (3, zV w)] := hl
  refine lv_aload_n C.1 C.2.1 dX11_target_0 rfl (lv_at hl 0 rfl) ?_
  refine z_get C (v := .ref (ad 0)) hR rfl bi_wsX110 2 (by decide) zw_1_20 rfl rfl dX11_target_1 ?_
  refine lv_iload_n C.1 C.2.1 dX11_target_4 rfl (lv_at hl 1 rfl) ?_
  refine z_readV C (As := [zN bm]) (rest := []) (c_bodyOf l Z hM hx3 hnm bm rfl (by omega)) hM.img rfl ⟨⟨zw_16_18, zw_1_18, zw_37_19⟩, zd_X2_bodyOf⟩ zw_16_16 zw_16_17 ⟨Nat.le_of_ble_eq_true rfl, Nat.le_of_ble_eq_true rfl⟩ ⟨rfl, rfl⟩ rfl hl.1 rfl (Nat.le_of_ble_eq_true rfl) dX11_target_5 ⟨Nat.zero_le _, Nat.zero_le _⟩ hS (fun locs hS => ?_)
  refine lv_astore (lv' := [(4, .ref (ad (16 + bm))), (0, .ref o), (1, zN bm), (2, zN i), (3, zV w)]) C.1 C.2.1 dX11_target_8 hl (by decide) rfl (fun ls hl => ?_)
  refine lv_aload_n C.1 C.2.1 dX11_target_10 rfl (lv_at hl 1 rfl) ?_
  refine z_get C (v := .ref (ad 0)) hR rfl bi_wsX110 2 (by decide) zw_1_20 rfl rfl dX11_target_11 ?_
  refine lv_iload_n C.1 C.2.1 dX11_target_14 rfl (lv_at hl 2 rfl) ?_
  refine lv_iload_n C.1 C.2.1 dX11_target_15 rfl (lv_at hl 3 rfl) ?_
  refine z_readV C (As := [zN bm, zN i]) (rest := []) (c_insP1 l Z hM hx3 hnm hb bm hbn (i : Int) (by omega)) hM.img rfl ⟨⟨zw_38_11, zw_1_18, zw_38_8⟩, zd_X2_instructionPlace⟩ zw_38_9 zw_38_10 ⟨Nat.le_of_ble_eq_true rfl, Nat.le_of_ble_eq_true rfl⟩ ⟨rfl, rfl⟩ rfl hl.1 rfl (Nat.le_of_ble_eq_true rfl) dX11_target_16 ⟨Nat.zero_le _, Nat.zero_le _⟩ hS (fun locs hS => ?_)
  refine z_re (y := zI ((ca + stF F ca sz i : Nat) : Int)) (by unfold inP; rw [if_pos ⟨by omega, by omega, by rw [Int.toNat_natCast, hrn]; omega⟩, Int.toNat_natCast, Int.toNat_natCast, hfr]; exact m14 i hi) ?_
  refine lv_istore (lv' := [(5, zN (ca + stF F ca sz i)), (4, .ref (ad (16 + bm))), (0, .ref o), (1, zN bm), (2, zN i), (3, zV w)]) C.1 C.2.1 dX11_target_19 hl (by decide) rfl (fun ls hl => ?_)
  refine lv_aload C.1 C.2.1 dX11_target_21 (lv_at hl 1 rfl) ?_
  refine lv_ifnull C.1 C.2.1 dX11_target_23 ?_
  refine lv_iload C.1 C.2.1 dX11_target_26 (lv_at hl 0 rfl) ?_
  refine lv_iconst (v := zI (-1)) C.1 C.2.1 dX11_target_28 (by decide) ?_
  refine y_icmp_ne (tgt := 34) C (a := ((ca + stF F ca sz i : Nat) : Int)) (b := -1) dX11_target_29 (by decide) (by omega) (fun h29 => ?_) (fun h29 => ?_)
  · refine lv_iload_n C.1 C.2.1 dX11_target_34 rfl (lv_at hl 5 rfl) ?_
    refine y_if_lt (tgt := 59) C (a := w) dX11_target_35 (by decide) (by omega) (fun h35 => ?_) (fun h35 => ?_)
    · refine lv_iconst (v := zI (-1)) C.1 C.2.1 dX11_target_59 (by decide) ?_
      exact hret _ _ _ _ (zI (-1)) hS ⟨congrArg (fun x : Int => some (zV x)) (by rw [if_neg (by omega)]), rfl⟩ rfl dX11_target_60
    · refine lv_iload_n C.1 C.2.1 dX11_target_38 rfl (lv_at hl 5 rfl) ?_
      refine lv_aload_n C.1 C.2.1 dX11_target_39 rfl (lv_at hl 2 rfl) ?_
      refine z_get C (v := .ref (ad 0)) hR rfl bi_wsX110 2 (by decide) zw_1_20 rfl rfl dX11_target_40 ?_
      refine z_get C (v := .ref (ad 1)) hM.img rfl bi_wsX20 0 (by decide) zw_6_9 rfl rfl dX11_target_43 ?_
      refine lv_iload C.1 C.2.1 dX11_target_46 (lv_at hl 0 rfl) ?_
      refine lv_aload C.1 C.2.1 dX11_target_48 (lv_at hl 1 rfl) ?_
      refine z_get C (v := .int (τ.2.1 24 bm)) (hM.bod bm (by omega)) rfl bi_wsX00 4 (by decide) zw_40_3 rfl rfl dX11_target_50 ?_
      refine z_re (y := zI ((ca : Nat) : Int)) m8 ?_
      refine z_readS C (As := [.ref (ad 1), zN (ca + stF F ca sz i), zN ca]) (rest := [zV w]) (c_X3_targetCount l Z hM hB (ca := ca) (q := stF F ca sz i) (by omega) hsI) ⟨⟨zw_24_14, zw_20_22, zw_40_4⟩, zd_X3_targetCount⟩ zw_24_13 ⟨Nat.le_of_ble_eq_true rfl, Nat.le_of_ble_eq_true rfl⟩ ⟨rfl, rfl⟩ rfl hl.1 rfl (Nat.le_of_ble_eq_true rfl) dX11_target_53 ⟨Nat.zero_le _, Nat.zero_le _⟩ hS (fun locs hS => ?_)
      refine y_icmp_lt (tgt := 61) C (a := w) (b := ((M + 1 : Nat) : Int)) dX11_target_56 (by decide) (by omega) (fun h56 => ?_) (fun h56 => ?_)
      · refine lv_aload_n C.1 C.2.1 dX11_target_61 rfl (lv_at hl 2 rfl) ?_
        refine z_get C (v := .ref (ad 0)) hR rfl bi_wsX110 2 (by decide) zw_1_20 rfl rfl dX11_target_62 ?_
        refine lv_aload C.1 C.2.1 dX11_target_65 (lv_at hl 1 rfl) ?_
        refine lv_aload_n C.1 C.2.1 dX11_target_67 rfl (lv_at hl 2 rfl) ?_
        refine z_get C (v := .ref (ad 0)) hR rfl bi_wsX110 2 (by decide) zw_1_20 rfl rfl dX11_target_68 ?_
        refine z_get C (v := .ref (ad 1)) hM.img rfl bi_wsX20 0 (by decide) zw_6_9 rfl rfl dX11_target_71 ?_
        refine lv_iload C.1 C.2.1 dX11_target_74 (lv_at hl 0 rfl) ?_
        refine lv_aload C.1 C.2.1 dX11_target_76 (lv_at hl 1 rfl) ?_
        refine z_get C (v := .int (τ.2.1 24 bm)) (hM.bod bm (by omega)) rfl bi_wsX00 4 (by decide) zw_40_3 rfl rfl dX11_target_78 ?_
        refine z_re (y := zI ((ca : Nat) : Int)) m8 ?_
        refine lv_iload_n C.1 C.2.1 dX11_target_81 rfl (lv_at hl 5 rfl) ?_
        obtain ⟨w2, rfl⟩ : ∃ w2 : Nat, w = (w2 : Int) := ⟨w.toNat, by omega⟩
        refine z_readS C (As := [.ref (ad 1), zN (ca + stF F ca sz i), zN ca, zN w2]) (rest := [.ref (ad (16 + bm)), .ref (ad 0)]) (c_X3_targetPlace l Z hM hB (ca := ca) (q := stF F ca sz i) (by omega) hsI (t := w2) (by omega)) ⟨⟨zw_24_17, zw_20_22, zw_40_5⟩, zd_X3_targetPlace⟩ zw_24_16 ⟨Nat.le_of_ble_eq_true rfl, Nat.le_of_ble_eq_true rfl⟩ ⟨rfl, rfl⟩ rfl hl.1 rfl (Nat.le_of_ble_eq_true rfl) dX11_target_82 ⟨Nat.zero_le _, Nat.zero_le _⟩ hS (fun locs hS => ?_)
        have htg := tgP_rg hB.1 ca (stF F ca sz i) w2
        refine z_readV C (As := [.ref (ad (16 + bm)), zV (((ca + stF F ca sz i : Nat) : Int) + tgP F ca (stF F ca sz i) w2)]) (rest := []) (c_num l Z hM hm hn (T := ((ca + stF F ca sz i : Nat) : Int) + tgP F ca (stF F ca sz i) w2) (t := ((stF F ca sz i : Nat) : Int) + tgP F ca (stF F ca sz i) w2) (by omega) (by omega)) hM.img rfl ⟨⟨zw_24_3, zw_1_18, zw_40_6⟩, zd_X2_numberAt⟩ zw_24_1 zw_24_2 ⟨Nat.le_of_ble_eq_true rfl, Nat.le_of_ble_eq_true rfl⟩ ⟨rfl, rfl⟩ rfl hl.1 rfl (Nat.le_of_ble_eq_true rfl) dX11_target_85 ⟨Nat.zero_le _, Nat.zero_le _⟩ hS (fun locs hS => ?_)
        have hnc85 := numC_rg F ca sz N (((stF F ca sz i : Nat) : Int) + tgP F ca (stF F ca sz i) w2)
        have hnd85 := numC_c F ca sz N (((stF F ca sz i : Nat) : Int) + tgP F ca (stF F ca sz i) w2)
        exact hret _ _ _ _ (zI (numC F ca sz N (((stF F ca sz i : Nat) : Int) + tgP F ca (stF F ca sz i) w2))) hS ⟨congrArg (fun x : Int => some (zV x)) (by rw [if_pos (by omega), Int.toNat_natCast]), rfl⟩ rfl dX11_target_88
      · refine lv_iconst (v := zI (-1)) C.1 C.2.1 dX11_target_59 (by decide) ?_
        exact hret _ _ _ _ (zI (-1)) hS ⟨congrArg (fun x : Int => some (zV x)) (by rw [if_neg (by omega)]), rfl⟩ rfl dX11_target_60
  · exact False.elim (by first | omega | exact h29 rfl)
