/-! the component: members, the layout -/

theorem uS_mm {F : Nat → Nat} {n k i0 r w : Nat} {mt : Nat → Nat} (h : uS F n 2 k 0 24 5 = .error (r, w)) : xMems F n k i0 mt = .error (r, w) := by
  unfold uS at h
  unfold xMems
  by_cases a : k + 2 ≤ n
  · rw [if_pos a] at h
    rw [if_pos a]
    by_cases b : U2 F k ≤ 24
    · rw [if_pos ⟨by omega, b⟩] at h; exact absurd h (by simp)
    · rw [if_neg (fun z => b z.2)] at h; rw [if_neg b]; cases h; rfl
  · rw [if_neg a] at h
    rw [if_neg a]; cases h; rfl

set_option maxHeartbeats 4000000 in
set_option maxRecDepth 20000 in
theorem c_behindMembers11 (l : Launch) (Z : zT) {H : Heap} {ad : Nat → Nat} {τ : mS} {X : List (Nat × va_E)} (hM : isC Z H ad τ X) {F : Nat → Nat} {n : Nat} (hB : cSrc τ F n) {t en ru : Nat} (he1 : en = n) (hr1 : ru = 2) (hX : (t, stE ad en ru) ∈ X) {k : Nat} (hk : k ≤ n) (i0 : Nat) (mt : Nat → Nat) : zM l Z yX4_behindMembers cX4_behindMembers 6 (some .int) (rmk 4) [.ref t, .ref (ad 11), zN k] H (cA ad) 0 0 (fun v H' => (∃ q mt', xMems F n k i0 mt = .ok (q, mt') ∧ v = some (zN q) ∧ q ≤ n ∧ ∃ τ' : mS, isC Z H' ad τ' X ∧ chg [] [11] τ τ' ∧ ∀ j, j < U2 F k → τ'.2.1 11 j = zI (mt' (i0 + j) : Int)) ∨ (∃ r w, xMems F n k i0 mt = .error (r, w) ∧ v = some (zV (-1)) ∧ gE Z H' ad X τ [8, 9] [11] r w)) := by
  have hn := hB.2.2.2
  have hen : en ≤ 16000 := by omega
  have hu2 := U2_lt hB.1 k
  refine zM.introI (own := RX4) ⟨by decide, rfl⟩ (Nat.le_of_ble_eq_true rfl) ?_
  intro p e s m args below meth c Q ls hH C hl hret
  have hS : va_S (cA ad) s.heap H [] := by rw [hH]; exact va_S.rf
  have hl : lv_has ls 6 [(0, .ref t), (1, .ref (ad 11)), (2, zN k)] := hl
  refine lv_aload_n C.1 C.2.1 dX4_behindMembers_0 rfl (lv_at hl 0 rfl) ?_
  refine lv_iload_n C.1 C.2.1 dX4_behindMembers_1 rfl (lv_at hl 2 rfl) ?_
  refine lv_iconst (v := zI 0) C.1 C.2.1 dX4_behindMembers_2 (by decide) ?_
  refine lv_bipush (v := zI 24) C.1 C.2.1 dX4_behindMembers_3 (by decide) ?_
  refine lv_iconst (v := zI 5) C.1 C.2.1 dX4_behindMembers_5 (by decide) ?_
  refine z_callV C (As := [zN k, zN 0, zN 24, zN 5]) (rest := []) (c_X8_behindU2 l Z hM hB hX (by omega) (k := k) (lo := 0) (hi := 24) (rl := 5) (by omega) (by omega) (by omega) (by omega)) (hM.ex' hX) rfl ⟨⟨zw_9_20, zw_8_3, zw_9_17⟩, zd_X8_behindU2⟩ zw_9_18 zw_9_19 ⟨Nat.le_of_ble_eq_true rfl, Nat.le_of_ble_eq_true rfl⟩ ⟨rfl, rfl⟩ rfl hl.1 rfl (Nat.le_of_ble_eq_true rfl) dX4_behindMembers_6 ⟨Nat.zero_le _, Nat.zero_le _⟩ hS (fun _ h => h) (fun v H locs hp hS _ _ => ?_)
  rcases hp with ⟨q6, e6, rfl, hM, hb6⟩ | ⟨r6, w6, e6, rfl, hM⟩
  · obtain ⟨hu1, hu2, hu3⟩ := uS_ok e6
    subst hu1
    refine lv_istore_n (lv' := [(3, zN (k + 2)), (0, .ref t), (1, .ref (ad 11)), (2, zN k)]) C.1 C.2.1 dX4_behindMembers_9 rfl hl (by decide) rfl (fun ls hl => ?_)
    refine lv_iload_n C.1 C.2.1 dX4_behindMembers_10 rfl (lv_at hl 0 rfl) ?_
    refine lv_iconst (v := zI (-1)) C.1 C.2.1 dX4_behindMembers_11 (by decide) ?_
    refine y_icmp_ne (tgt := 19) C (a := ((k + 2 : Nat) : Int)) (b := -1) dX4_behindMembers_12 (by decide) (by omega) (fun h12 => ?_) (fun h12 => ?_)
    · refine lv_aload_n C.1 C.2.1 dX4_behindMembers_19 rfl (lv_at hl 1 rfl) ?_
      refine z_get C (v := .ref (ad 1)) (hM.ex' hX) rfl bi_wsX80 0 (by decide) zw_9_4 rfl rfl dX4_behindMembers_20 ?_
      refine lv_iload_n C.1 C.2.1 dX4_behindMembers_23 rfl (lv_at hl 3 rfl) ?_
      refine z_readV C (As := [zN k]) (rest := []) (c_u2 l Z hM hB k rfl (by omega)) hM.byt rfl ⟨⟨zw_10_5, zw_2_15, zw_10_6⟩, zd_X1_u2⟩ zw_10_3 zw_10_4 ⟨Nat.le_of_ble_eq_true rfl, Nat.le_of_ble_eq_true rfl⟩ ⟨rfl, rfl⟩ rfl hl.1 rfl (Nat.le_of_ble_eq_true rfl) dX4_behindMembers_24 ⟨Nat.zero_le _, Nat.zero_le _⟩ hS (fun locs hS => ?_)
      have := U2_lt hB.1 k
      refine lv_istore (lv' := [(4, zN (U2 F k)), (3, zN (k + 2)), (0, .ref t), (1, .ref (ad 11)), (2, zN k)]) C.1 C.2.1 dX4_behindMembers_27 hl (by decide) rfl (fun ls hl => ?_)
      refine lv_iconst (v := zI 0) C.1 C.2.1 dX4_behindMembers_29 (by decide) ?_
      refine lv_istore (lv' := [(5, zN 0), (4, zN (U2 F k)), (3, zN (k + 2)), (0, .ref t), (1, .ref (ad 11)), (2, zN k)]) C.1 C.2.1 dX4_behindMembers_30 hl (by decide) rfl (fun ls hl => ?_)
      have loop : ∀ (fu : Nat) (i : Nat) (q : Nat) (mt1 : Nat → Nat) (τ1 : mS) (H : Heap) (ls : Array Slot) (locs : List Loc), va_S (cA ad) s.heap H locs → isC Z H ad τ1 X → (i ≤ U2 F k ∧ U2 F k < i + fu) → (q ≤ n) → (chg [] [11] τ τ1) → (cSrc τ1 F n) → (∀ j, j < i → τ1.2.1 11 j = zI (mt1 (i0 + j) : Int)) → (xMem F n (U2 F k - i) q (i0 + i) mt1 = xMems F n k i0 mt) → lv_has ls 6 [(5, zN i), (4, zN (U2 F k)), (3, zN q), (0, .ref t), (1, .ref (ad 11)), (2, zN k)] → W p l e (rmk 4) s m args below meth c H locs 0 0 Q (F0 m 32 ls []) := by
        intro fu
        induction fu with
        | zero =>
          intro i q mt1 τ1 H ls locs hS hM hi hq hc hB hr he hl
          (exact absurd hi.2 (by omega))
        | succ fu ih_loop =>
          intro i q mt1 τ1 H ls locs hS hM hi hq hc hB hr he hl
          refine lv_iload C.1 C.2.1 dX4_behindMembers_32 (lv_at hl 0 rfl) ?_
          refine lv_iload C.1 C.2.1 dX4_behindMembers_34 (lv_at hl 1 rfl) ?_
          refine y_icmp_ge (tgt := 76) C (a := ((i : Nat) : Int)) (b := ((U2 F k : Nat) : Int)) dX4_behindMembers_36 (by decide) (by omega) (fun h36 => ?_) (fun h36 => ?_)
          · refine lv_iload_n C.1 C.2.1 dX4_behindMembers_76 rfl (lv_at hl 2 rfl) ?_
            exact hret _ _ _ _ (zI ((q : Nat) : Int)) hS (Or.inl ⟨q, mt1, (by rw [← he, show U2 F k - i = 0 by omega]; rfl), rfl, hq, τ1, hM, hc, fun j hj => hr j (by omega)⟩) rfl dX4_behindMembers_77
          · refine lv_iload_n C.1 C.2.1 dX4_behindMembers_39 rfl (lv_at hl 2 rfl) ?_
            refine lv_iconst (v := zI (-1)) C.1 C.2.1 dX4_behindMembers_40 (by decide) ?_
            refine y_icmp_eq (tgt := 76) C (a := ((q : Nat) : Int)) (b := -1) dX4_behindMembers_41 (by decide) (by omega) (fun h41 => ?_) (fun h41 => ?_)
            · exact False.elim (by first | omega | exact h41 rfl)
            · refine lv_aload_n C.1 C.2.1 dX4_behindMembers_44 rfl (lv_at hl 4 rfl) ?_
              refine lv_iload C.1 C.2.1 dX4_behindMembers_45 (lv_at hl 0 rfl) ?_
              refine lv_iload_n C.1 C.2.1 dX4_behindMembers_47 rfl (lv_at hl 2 rfl) ?_
              refine z_callSN C (As := [.ref (ad 11), zN i, zN q]) (rest := []) (c_put l Z hM 11 (by decide) i rfl (by show _ < 24; omega) (zI ((q : Nat) : Int))) ⟨⟨zw_10_12, zw_1_2⟩, zd_X11_put⟩ (by decide) zw_10_11 ⟨Nat.le_of_ble_eq_true rfl, Nat.le_of_ble_eq_true rfl⟩ ⟨rfl, rfl⟩ rfl hl.1 rfl (Nat.le_of_ble_eq_true rfl) dX4_behindMembers_48 ⟨Nat.zero_le _, Nat.zero_le _⟩ hS (fun _ h => ⟨11, by decide, h⟩) (fun v H locs hp hS _ _ => ?_)
              obtain ⟨rfl, hM⟩ := hp
              have hB : cSrc (sf τ1 11 (upd (τ1.2.1 11) i (zI ((q : Nat) : Int)))) F n := hB.sf (by decide)
              refine lv_aload_n C.1 C.2.1 dX4_behindMembers_51 rfl (lv_at hl 3 rfl) ?_
              refine lv_iload_n C.1 C.2.1 dX4_behindMembers_52 rfl (lv_at hl 2 rfl) ?_
              refine lv_bipush (v := zI 6) C.1 C.2.1 dX4_behindMembers_53 (by decide) ?_
              refine z_callV C (As := [zN q, zN 6]) (rest := []) (c_X8_behind l Z hM hX q (by omega) 6 (by omega) hen) (hM.ex' hX) rfl ⟨⟨zw_10_0, zw_8_3, zw_10_22⟩, zd_X8_behind⟩ zw_9_22 zw_9_23 ⟨Nat.le_of_ble_eq_true rfl, Nat.le_of_ble_eq_true rfl⟩ ⟨rfl, rfl⟩ rfl hl.1 rfl (Nat.le_of_ble_eq_true rfl) dX4_behindMembers_55 ⟨Nat.zero_le _, Nat.zero_le _⟩ hS (fun _ h => h) (fun v H locs hp hS _ _ => ?_)
              obtain ⟨hp1, hp2⟩ := hp
              rcases Classical.em (0 ≤ (6 : Int) ∧ ((q : Nat) : Int) + 6 ≤ (en : Int)) with hc55 | hc55
              · obtain ⟨rfl, hM⟩ := hp1 hc55
                refine lv_istore_n (lv' := [(3, zN (q + 6)), (5, zN i), (4, zN (U2 F k)), (0, .ref t), (1, .ref (ad 11)), (2, zN k)]) C.1 C.2.1 dX4_behindMembers_58 rfl hl (by decide) rfl (fun ls hl => ?_)
                refine lv_iload_n C.1 C.2.1 dX4_behindMembers_59 rfl (lv_at hl 0 rfl) ?_
                refine lv_iconst (v := zI (-1)) C.1 C.2.1 dX4_behindMembers_60 (by decide) ?_
                refine y_icmp_eq (tgt := 70) C (a := ((q + 6 : Nat) : Int)) (b := -1) dX4_behindMembers_61 (by decide) (by omega) (fun h61 => ?_) (fun h61 => ?_)
                · exact False.elim (by first | omega | exact h61 rfl)
                · refine lv_aload_n C.1 C.2.1 dX4_behindMembers_64 rfl (lv_at hl 3 rfl) ?_
                  refine lv_iload_n C.1 C.2.1 dX4_behindMembers_65 rfl (lv_at hl 0 rfl) ?_
                  refine z_callV C (As := [zN (q + 6)]) (rest := []) (c_X8_behindAttributes l Z hM hB hX (by omega) (k := q + 6) (by omega)) (hM.ex' hX) rfl ⟨⟨zw_12_21, zw_8_3, zw_12_18⟩, zd_X8_behindAttributes⟩ zw_12_19 zw_12_20 ⟨Nat.le_of_ble_eq_true rfl, Nat.le_of_ble_eq_true rfl⟩ ⟨rfl, rfl⟩ rfl hl.1 rfl (Nat.le_of_ble_eq_true rfl) dX4_behindMembers_66 ⟨Nat.zero_le _, Nat.zero_le _⟩ hS (fun _ h => h) (fun v H locs hp hS _ _ => ?_)
                  rcases hp with ⟨q66, e66, rfl, hM, hb66⟩ | ⟨r66, w66, e66, rfl, hM⟩
                  · skip
                    refine lv_istore_n (lv' := [(3, zN q66), (5, zN i), (4, zN (U2 F k)), (0, .ref t), (1, .ref (ad 11)), (2, zN k)]) C.1 C.2.1 dX4_behindMembers_69 rfl hl (by decide) rfl (fun ls hl => ?_)
                    refine lv_iinc (v := zI ((i + 1 : Nat) : Int)) (lv' := [(5, zN (i + 1)), (3, zN q66), (4, zN (U2 F k)), (0, .ref t), (1, .ref (ad 11)), (2, zN k)]) C.1 C.2.1 dX4_behindMembers_70 hl (k := 1) rfl (zI_add _ _) (by decide) rfl (fun ls hl => ?_)
                    refine lv_goto (tgt := 32) C.1 C.2.1 dX4_behindMembers_73 (by decide) ?_
                    exact ih_loop (i + 1) q66 (va_up mt1 (i0 + i) q) _ _ ls _ hS hM (by omega) (by omega) (chg_sf (by decide) hc) hB (fun j hj => by rcases Nat.lt_succ_iff_lt_or_eq.mp hj with h | h; (rw [va_up_ne _ _ (by omega)]; exact ((congrFun (sf_at τ1 11 _) j).trans (upd_ne (by omega))).trans (hr j h)); (subst h; rw [va_up_self]; exact (congrFun (sf_at τ1 11 _) j).trans upd_2)) (by rw [← he, show U2 F k - i = (U2 F k - (i + 1)) + 1 by omega, xMem_s (by omega) (by rw [← aAs_x, ← he1, ← hr1]; exact e66)]; rfl) (lv_sub hl [0, 2, 1, 3, 4, 5] rfl)
                  · skip
                    refine lv_istore_n (lv' := [(3, zV (-1)), (5, zN i), (4, zN (U2 F k)), (0, .ref t), (1, .ref (ad 11)), (2, zN k)]) C.1 C.2.1 dX4_behindMembers_69 rfl hl (by decide) rfl (fun ls hl => ?_)
                    refine lv_iinc (v := zI ((i + 1 : Nat) : Int)) (lv' := [(5, zN (i + 1)), (3, zV (-1)), (4, zN (U2 F k)), (0, .ref t), (1, .ref (ad 11)), (2, zN k)]) C.1 C.2.1 dX4_behindMembers_70 hl (k := 1) rfl (zI_add _ _) (by decide) rfl (fun ls hl => ?_)
                    refine lv_goto (tgt := 32) C.1 C.2.1 dX4_behindMembers_73 (by decide) ?_
                    refine lv_iload C.1 C.2.1 dX4_behindMembers_32 (lv_at hl 0 rfl) ?_
                    refine lv_iload C.1 C.2.1 dX4_behindMembers_34 (lv_at hl 2 rfl) ?_
                    refine y_icmp_ge (tgt := 76) C (a := ((i + 1 : Nat) : Int)) (b := ((U2 F k : Nat) : Int)) dX4_behindMembers_36 (by decide) (by omega) (fun h36 => ?_) (fun h36 => ?_)
                    · refine lv_iload_n C.1 C.2.1 dX4_behindMembers_76 rfl (lv_at hl 1 rfl) ?_
                      exact hret _ _ _ _ (zI (-1)) hS (Or.inr ⟨_, _, (by rw [← he, show U2 F k - i = (U2 F k - (i + 1)) + 1 by omega]; exact xMem_e (by omega) (by rw [← aAs_x, ← he1, ← hr1]; exact e66)), rfl, _, hM, (chg_sx (by decide) (chg_sx (by decide) (chg_sf (by decide) (hc.mono (by decide) (by decide) : chg [8, 9] [11] τ τ1)))), rfl, rfl⟩) rfl dX4_behindMembers_77
                    · refine lv_iload_n C.1 C.2.1 dX4_behindMembers_39 rfl (lv_at hl 1 rfl) ?_
                      refine lv_iconst (v := zI (-1)) C.1 C.2.1 dX4_behindMembers_40 (by decide) ?_
                      refine y_icmp_eq (tgt := 76) C (a := -1) (b := -1) dX4_behindMembers_41 (by decide) (by omega) (fun h41 => ?_) (fun h41 => ?_)
                      · refine lv_iload_n C.1 C.2.1 dX4_behindMembers_76 rfl (lv_at hl 1 rfl) ?_
                        exact hret _ _ _ _ (zI (-1)) hS (Or.inr ⟨_, _, (by rw [← he, show U2 F k - i = (U2 F k - (i + 1)) + 1 by omega]; exact xMem_e (by omega) (by rw [← aAs_x, ← he1, ← hr1]; exact e66)), rfl, _, hM, (chg_sx (by decide) (chg_sx (by decide) (chg_sf (by decide) (hc.mono (by decide) (by decide) : chg [8, 9] [11] τ τ1)))), rfl, rfl⟩) rfl dX4_behindMembers_77
                      · exact False.elim (by first | omega | exact h41 rfl)
              · obtain ⟨rfl, hM⟩ := hp2 hc55
                refine lv_istore_n (lv' := [(3, zV (-1)), (5, zN i), (4, zN (U2 F k)), (0, .ref t), (1, .ref (ad 11)), (2, zN k)]) C.1 C.2.1 dX4_behindMembers_58 rfl hl (by decide) rfl (fun ls hl => ?_)
                refine lv_iload_n C.1 C.2.1 dX4_behindMembers_59 rfl (lv_at hl 0 rfl) ?_
                refine lv_iconst (v := zI (-1)) C.1 C.2.1 dX4_behindMembers_60 (by decide) ?_
                refine y_icmp_eq (tgt := 70) C (a := -1) (b := -1) dX4_behindMembers_61 (by decide) (by omega) (fun h61 => ?_) (fun h61 => ?_)
                · refine lv_iinc (v := zI ((i + 1 : Nat) : Int)) (lv' := [(5, zN (i + 1)), (3, zV (-1)), (4, zN (U2 F k)), (0, .ref t), (1, .ref (ad 11)), (2, zN k)]) C.1 C.2.1 dX4_behindMembers_70 hl (k := 1) rfl (zI_add _ _) (by decide) rfl (fun ls hl => ?_)
                  refine lv_goto (tgt := 32) C.1 C.2.1 dX4_behindMembers_73 (by decide) ?_
                  refine lv_iload C.1 C.2.1 dX4_behindMembers_32 (lv_at hl 0 rfl) ?_
                  refine lv_iload C.1 C.2.1 dX4_behindMembers_34 (lv_at hl 2 rfl) ?_
                  refine y_icmp_ge (tgt := 76) C (a := ((i + 1 : Nat) : Int)) (b := ((U2 F k : Nat) : Int)) dX4_behindMembers_36 (by decide) (by omega) (fun h36 => ?_) (fun h36 => ?_)
                  · refine lv_iload_n C.1 C.2.1 dX4_behindMembers_76 rfl (lv_at hl 1 rfl) ?_
                    exact hret _ _ _ _ (zI (-1)) hS (Or.inr ⟨_, _, (by rw [← he, show U2 F k - i = (U2 F k - (i + 1)) + 1 by omega]; exact (by rw [xMem_2 (by omega), he1, hr1])), rfl, _, hM, (chg_sx (by decide) (chg_sx (by decide) (chg_sf (by decide) (hc.mono (by decide) (by decide) : chg [8, 9] [11] τ τ1)))), rfl, rfl⟩) rfl dX4_behindMembers_77
                  · refine lv_iload_n C.1 C.2.1 dX4_behindMembers_39 rfl (lv_at hl 1 rfl) ?_
                    refine lv_iconst (v := zI (-1)) C.1 C.2.1 dX4_behindMembers_40 (by decide) ?_
                    refine y_icmp_eq (tgt := 76) C (a := -1) (b := -1) dX4_behindMembers_41 (by decide) (by omega) (fun h41 => ?_) (fun h41 => ?_)
                    · refine lv_iload_n C.1 C.2.1 dX4_behindMembers_76 rfl (lv_at hl 1 rfl) ?_
                      exact hret _ _ _ _ (zI (-1)) hS (Or.inr ⟨_, _, (by rw [← he, show U2 F k - i = (U2 F k - (i + 1)) + 1 by omega]; exact (by rw [xMem_2 (by omega), he1, hr1])), rfl, _, hM, (chg_sx (by decide) (chg_sx (by decide) (chg_sf (by decide) (hc.mono (by decide) (by decide) : chg [8, 9] [11] τ τ1)))), rfl, rfl⟩) rfl dX4_behindMembers_77
                    · exact False.elim (by first | omega | exact h41 rfl)
                · exact False.elim (by first | omega | exact h61 rfl)
      exact loop (U2 F k + 1) 0 (k + 2) mt _ _ ls _ hS hM (by omega) (by omega) chg.rf hB (fun j hj => by omega) (by unfold xMems; rw [if_pos (by omega), if_pos (by omega)]; rfl) hl
    · exact False.elim (by first | omega | exact h12 rfl)
  · skip
    refine lv_istore_n (lv' := [(3, zV (-1)), (0, .ref t), (1, .ref (ad 11)), (2, zN k)]) C.1 C.2.1 dX4_behindMembers_9 rfl hl (by decide) rfl (fun ls hl => ?_)
    refine lv_iload_n C.1 C.2.1 dX4_behindMembers_10 rfl (lv_at hl 0 rfl) ?_
    refine lv_iconst (v := zI (-1)) C.1 C.2.1 dX4_behindMembers_11 (by decide) ?_
    refine y_icmp_ne (tgt := 19) C (a := -1) (b := -1) dX4_behindMembers_12 (by decide) (by omega) (fun h12 => ?_) (fun h12 => ?_)
    · exact False.elim (by first | omega | exact h12 rfl)
    · refine lv_iconst (v := zI 0) C.1 C.2.1 dX4_behindMembers_15 (by decide) ?_
      refine lv_goto (tgt := 27) C.1 C.2.1 dX4_behindMembers_16 (by decide) ?_
      refine lv_istore (lv' := [(4, zN 0), (3, zV (-1)), (0, .ref t), (1, .ref (ad 11)), (2, zN k)]) C.1 C.2.1 dX4_behindMembers_27 hl (by decide) rfl (fun ls hl => ?_)
      refine lv_iconst (v := zI 0) C.1 C.2.1 dX4_behindMembers_29 (by decide) ?_
      refine lv_istore (lv' := [(5, zN 0), (4, zN 0), (3, zV (-1)), (0, .ref t), (1, .ref (ad 11)), (2, zN k)]) C.1 C.2.1 dX4_behindMembers_30 hl (by decide) rfl (fun ls hl => ?_)
      refine lv_iload C.1 C.2.1 dX4_behindMembers_32 (lv_at hl 0 rfl) ?_
      refine lv_iload C.1 C.2.1 dX4_behindMembers_34 (lv_at hl 1 rfl) ?_
      refine y_icmp_ge (tgt := 76) C (a := 0) (b := 0) dX4_behindMembers_36 (by decide) (by omega) (fun h36 => ?_) (fun h36 => ?_)
      · refine lv_iload_n C.1 C.2.1 dX4_behindMembers_76 rfl (lv_at hl 2 rfl) ?_
        exact hret _ _ _ _ (zI (-1)) hS (Or.inr ⟨_, _, uS_mm (by rw [← e6, he1, hr1]), rfl, _, hM, (chg_sx (by decide) (chg_sx (by decide) chg.rf)), rfl, rfl⟩) rfl dX4_behindMembers_77
      · exact False.elim (by first | omega | exact h36 rfl)

set_option maxHeartbeats 4000000 in
set_option maxRecDepth 20000 in
theorem c_behindMembers12 (l : Launch) (Z : zT) {H : Heap} {ad : Nat → Nat} {τ : mS} {X : List (Nat × va_E)} (hM : isC Z H ad τ X) {F : Nat → Nat} {n : Nat} (hB : cSrc τ F n) {t en ru : Nat} (he1 : en = n) (hr1 : ru = 2) (hX : (t, stE ad en ru) ∈ X) {k : Nat} (hk : k ≤ n) (i0 : Nat) (mt : Nat → Nat) : zM l Z yX4_behindMembers cX4_behindMembers 6 (some .int) (rmk 4) [.ref t, .ref (ad 12), zN k] H (cA ad) 0 0 (fun v H' => (∃ q mt', xMems F n k i0 mt = .ok (q, mt') ∧ v = some (zN q) ∧ q ≤ n ∧ ∃ τ' : mS, isC Z H' ad τ' X ∧ chg [] [12] τ τ' ∧ ∀ j, j < U2 F k → τ'.2.1 12 j = zI (mt' (i0 + j) : Int)) ∨ (∃ r w, xMems F n k i0 mt = .error (r, w) ∧ v = some (zV (-1)) ∧ gE Z H' ad X τ [8, 9] [12] r w)) := by
  have hn := hB.2.2.2
  have hen : en ≤ 16000 := by omega
  have hu2 := U2_lt hB.1 k
  refine zM.introI (own := RX4) ⟨by decide, rfl⟩ (Nat.le_of_ble_eq_true rfl) ?_
  intro p e s m args below meth c Q ls hH C hl hret
  have hS : va_S (cA ad) s.heap H [] := by rw [hH]; exact va_S.rf
  have hl : lv_has ls 6 [(0, .ref t), (1, .ref (ad 12)), (2, zN k)] := hl
  refine lv_aload_n C.1 C.2.1 dX4_behindMembers_0 rfl (lv_at hl 0 rfl) ?_
  refine lv_iload_n C.1 C.2.1 dX4_behindMembers_1 rfl (lv_at hl 2 rfl) ?_
  refine lv_iconst (v := zI 0) C.1 C.2.1 dX4_behindMembers_2 (by decide) ?_
  refine lv_bipush (v := zI 24) C.1 C.2.1 dX4_behindMembers_3 (by decide) ?_
  refine lv_iconst (v := zI 5) C.1 C.2.1 dX4_behindMembers_5 (by decide) ?_
  refine z_callV C (As := [zN k, zN 0, zN 24, zN 5]) (rest := []) (c_X8_behindU2 l Z hM hB hX (by omega) (k := k) (lo := 0) (hi := 24) (rl := 5) (by omega) (by omega) (by omega) (by omega)) (hM.ex' hX) rfl ⟨⟨zw_9_20, zw_8_3, zw_9_17⟩, zd_X8_behindU2⟩ zw_9_18 zw_9_19 ⟨Nat.le_of_ble_eq_true rfl, Nat.le_of_ble_eq_true rfl⟩ ⟨rfl, rfl⟩ rfl hl.1 rfl (Nat.le_of_ble_eq_true rfl) dX4_behindMembers_6 ⟨Nat.zero_le _, Nat.zero_le _⟩ hS (fun _ h => h) (fun v H locs hp hS _ _ => ?_)
  rcases hp with ⟨q6, e6, rfl, hM, hb6⟩ | ⟨r6, w6, e6, rfl, hM⟩
  · obtain ⟨hu1, hu2, hu3⟩ := uS_ok e6
    subst hu1
    refine lv_istore_n (lv' := [(3, zN (k + 2)), (0, .ref t), (1, .ref (ad 12)), (2, zN k)]) C.1 C.2.1 dX4_behindMembers_9 rfl hl (by decide) rfl (fun ls hl => ?_)
    refine lv_iload_n C.1 C.2.1 dX4_behindMembers_10 rfl (lv_at hl 0 rfl) ?_
    refine lv_iconst (v := zI (-1)) C.1 C.2.1 dX4_behindMembers_11 (by decide) ?_
    refine y_icmp_ne (tgt := 19) C (a := ((k + 2 : Nat) : Int)) (b := -1) dX4_behindMembers_12 (by decide) (by omega) (fun h12 => ?_) (fun h12 => ?_)
    · refine lv_aload_n C.1 C.2.1 dX4_behindMembers_19 rfl (lv_at hl 1 rfl) ?_
      refine z_get C (v := .ref (ad 1)) (hM.ex' hX) rfl bi_wsX80 0 (by decide) zw_9_4 rfl rfl dX4_behindMembers_20 ?_
      refine lv_iload_n C.1 C.2.1 dX4_behindMembers_23 rfl (lv_at hl 3 rfl) ?_
      refine z_readV C (As := [zN k]) (rest := []) (c_u2 l Z hM hB k rfl (by omega)) hM.byt rfl ⟨⟨zw_10_5, zw_2_15, zw_10_6⟩, zd_X1_u2⟩ zw_10_3 zw_10_4 ⟨Nat.le_of_ble_eq_true rfl, Nat.le_of_ble_eq_true rfl⟩ ⟨rfl, rfl⟩ rfl hl.1 rfl (Nat.le_of_ble_eq_true rfl) dX4_behindMembers_24 ⟨Nat.zero_le _, Nat.zero_le _⟩ hS (fun locs hS => ?_)
      have := U2_lt hB.1 k
      refine lv_istore (lv' := [(4, zN (U2 F k)), (3, zN (k + 2)), (0, .ref t), (1, .ref (ad 12)), (2, zN k)]) C.1 C.2.1 dX4_behindMembers_27 hl (by decide) rfl (fun ls hl => ?_)
      refine lv_iconst (v := zI 0) C.1 C.2.1 dX4_behindMembers_29 (by decide) ?_
      refine lv_istore (lv' := [(5, zN 0), (4, zN (U2 F k)), (3, zN (k + 2)), (0, .ref t), (1, .ref (ad 12)), (2, zN k)]) C.1 C.2.1 dX4_behindMembers_30 hl (by decide) rfl (fun ls hl => ?_)
      have loop : ∀ (fu : Nat) (i : Nat) (q : Nat) (mt1 : Nat → Nat) (τ1 : mS) (H : Heap) (ls : Array Slot) (locs : List Loc), va_S (cA ad) s.heap H locs → isC Z H ad τ1 X → (i ≤ U2 F k ∧ U2 F k < i + fu) → (q ≤ n) → (chg [] [12] τ τ1) → (cSrc τ1 F n) → (∀ j, j < i → τ1.2.1 12 j = zI (mt1 (i0 + j) : Int)) → (xMem F n (U2 F k - i) q (i0 + i) mt1 = xMems F n k i0 mt) → lv_has ls 6 [(5, zN i), (4, zN (U2 F k)), (3, zN q), (0, .ref t), (1, .ref (ad 12)), (2, zN k)] → W p l e (rmk 4) s m args below meth c H locs 0 0 Q (F0 m 32 ls []) := by
        intro fu
        induction fu with
        | zero =>
          intro i q mt1 τ1 H ls locs hS hM hi hq hc hB hr he hl
          (exact absurd hi.2 (by omega))
        | succ fu ih_loop =>
          intro i q mt1 τ1 H ls locs hS hM hi hq hc hB hr he hl
          refine lv_iload C.1 C.2.1 dX4_behindMembers_32 (lv_at hl 0 rfl) ?_
          refine lv_iload C.1 C.2.1 dX4_behindMembers_34 (lv_at hl 1 rfl) ?_
          refine y_icmp_ge (tgt := 76) C (a := ((i : Nat) : Int)) (b := ((U2 F k : Nat) : Int)) dX4_behindMembers_36 (by decide) (by omega) (fun h36 => ?_) (fun h36 => ?_)
          · refine lv_iload_n C.1 C.2.1 dX4_behindMembers_76 rfl (lv_at hl 2 rfl) ?_
            exact hret _ _ _ _ (zI ((q : Nat) : Int)) hS (Or.inl ⟨q, mt1, (by rw [← he, show U2 F k - i = 0 by omega]; rfl), rfl, hq, τ1, hM, hc, fun j hj => hr j (by omega)⟩) rfl dX4_behindMembers_77
          · refine lv_iload_n C.1 C.2.1 dX4_behindMembers_39 rfl (lv_at hl 2 rfl) ?_
            refine lv_iconst (v := zI (-1)) C.1 C.2.1 dX4_behindMembers_40 (by decide) ?_
            refine y_icmp_eq (tgt := 76) C (a := ((q : Nat) : Int)) (b := -1) dX4_behindMembers_41 (by decide) (by omega) (fun h41 => ?_) (fun h41 => ?_)
            · exact False.elim (by first | omega | exact h41 rfl)
            · refine lv_aload_n C.1 C.2.1 dX4_behindMembers_44 rfl (lv_at hl 4 rfl) ?_
              refine lv_iload C.1 C.2.1 dX4_behindMembers_45 (lv_at hl 0 rfl) ?_
              refine lv_iload_n C.1 C.2.1 dX4_behindMembers_47 rfl (lv_at hl 2 rfl) ?_
              refine z_callSN C (As := [.ref (ad 12), zN i, zN q]) (rest := []) (c_put l Z hM 12 (by decide) i rfl (by show _ < 24; omega) (zI ((q : Nat) : Int))) ⟨⟨zw_10_12, zw_1_2⟩, zd_X11_put⟩ (by decide) zw_10_11 ⟨Nat.le_of_ble_eq_true rfl, Nat.le_of_ble_eq_true rfl⟩ ⟨rfl, rfl⟩ rfl hl.1 rfl (Nat.le_of_ble_eq_true rfl) dX4_behindMembers_48 ⟨Nat.zero_le _, Nat.zero_le _⟩ hS (fun _ h => ⟨12, by decide, h⟩) (fun v H locs hp hS _ _ => ?_)
              obtain ⟨rfl, hM⟩ := hp
              have hB : cSrc (sf τ1 12 (upd (τ1.2.1 12) i (zI ((q : Nat) : Int)))) F n := hB.sf (by decide)
              refine lv_aload_n C.1 C.2.1 dX4_behindMembers_51 rfl (lv_at hl 3 rfl) ?_
              refine lv_iload_n C.1 C.2.1 dX4_behindMembers_52 rfl (lv_at hl 2 rfl) ?_
              refine lv_bipush (v := zI 6) C.1 C.2.1 dX4_behindMembers_53 (by decide) ?_
              refine z_callV C (As := [zN q, zN 6]) (rest := []) (c_X8_behind l Z hM hX q (by omega) 6 (by omega) hen) (hM.ex' hX) rfl ⟨⟨zw_10_0, zw_8_3, zw_10_22⟩, zd_X8_behind⟩ zw_9_22 zw_9_23 ⟨Nat.le_of_ble_eq_true rfl, Nat.le_of_ble_eq_true rfl⟩ ⟨rfl, rfl⟩ rfl hl.1 rfl (Nat.le_of_ble_eq_true rfl) dX4_behindMembers_55 ⟨Nat.zero_le _, Nat.zero_le _⟩ hS (fun _ h => h) (fun v H locs hp hS _ _ => ?_)
              obtain ⟨hp1, hp2⟩ := hp
              rcases Classical.em (0 ≤ (6 : Int) ∧ ((q : Nat) : Int) + 6 ≤ (en : Int)) with hc55 | hc55
              · obtain ⟨rfl, hM⟩ := hp1 hc55
                refine lv_istore_n (lv' := [(3, zN (q + 6)), (5, zN i), (4, zN (U2 F k)), (0, .ref t), (1, .ref (ad 12)), (2, zN k)]) C.1 C.2.1 dX4_behindMembers_58 rfl hl (by decide) rfl (fun ls hl => ?_)
                refine lv_iload_n C.1 C.2.1 dX4_behindMembers_59 rfl (lv_at hl 0 rfl) ?_
                refine lv_iconst (v := zI (-1)) C.1 C.2.1 dX4_behindMembers_60 (by decide) ?_
                refine y_icmp_eq (tgt := 70) C (a := ((q + 6 : Nat) : Int)) (b := -1) dX4_behindMembers_61 (by decide) (by omega) (fun h61 => ?_) (fun h61 => ?_)
                · exact False.elim (by first | omega | exact h61 rfl)
                · refine lv_aload_n C.1 C.2.1 dX4_behindMembers_64 rfl (lv_at hl 3 rfl) ?_
                  refine lv_iload_n C.1 C.2.1 dX4_behindMembers_65 rfl (lv_at hl 0 rfl) ?_
                  refine z_callV C (As := [zN (q + 6)]) (rest := []) (c_X8_behindAttributes l Z hM hB hX (by omega) (k := q + 6) (by omega)) (hM.ex' hX) rfl ⟨⟨zw_12_21, zw_8_3, zw_12_18⟩, zd_X8_behindAttributes⟩ zw_12_19 zw_12_20 ⟨Nat.le_of_ble_eq_true rfl, Nat.le_of_ble_eq_true rfl⟩ ⟨rfl, rfl⟩ rfl hl.1 rfl (Nat.le_of_ble_eq_true rfl) dX4_behindMembers_66 ⟨Nat.zero_le _, Nat.zero_le _⟩ hS (fun _ h => h) (fun v H locs hp hS _ _ => ?_)
                  rcases hp with ⟨q66, e66, rfl, hM, hb66⟩ | ⟨r66, w66, e66, rfl, hM⟩
                  · skip
                    refine lv_istore_n (lv' := [(3, zN q66), (5, zN i), (4, zN (U2 F k)), (0, .ref t), (1, .ref (ad 12)), (2, zN k)]) C.1 C.2.1 dX4_behindMembers_69 rfl hl (by decide) rfl (fun ls hl => ?_)
                    refine lv_iinc (v := zI ((i + 1 : Nat) : Int)) (lv' := [(5, zN (i + 1)), (3, zN q66), (4, zN (U2 F k)), (0, .ref t), (1, .ref (ad 12)), (2, zN k)]) C.1 C.2.1 dX4_behindMembers_70 hl (k := 1) rfl (zI_add _ _) (by decide) rfl (fun ls hl => ?_)
                    refine lv_goto (tgt := 32) C.1 C.2.1 dX4_behindMembers_73 (by decide) ?_
                    exact ih_loop (i + 1) q66 (va_up mt1 (i0 + i) q) _ _ ls _ hS hM (by omega) (by omega) (chg_sf (by decide) hc) hB (fun j hj => by rcases Nat.lt_succ_iff_lt_or_eq.mp hj with h | h; (rw [va_up_ne _ _ (by omega)]; exact ((congrFun (sf_at τ1 12 _) j).trans (upd_ne (by omega))).trans (hr j h)); (subst h; rw [va_up_self]; exact (congrFun (sf_at τ1 12 _) j).trans upd_2)) (by rw [← he, show U2 F k - i = (U2 F k - (i + 1)) + 1 by omega, xMem_s (by omega) (by rw [← aAs_x, ← he1, ← hr1]; exact e66)]; rfl) (lv_sub hl [0, 2, 1, 3, 4, 5] rfl)
                  · skip
                    refine lv_istore_n (lv' := [(3, zV (-1)), (5, zN i), (4, zN (U2 F k)), (0, .ref t), (1, .ref (ad 12)), (2, zN k)]) C.1 C.2.1 dX4_behindMembers_69 rfl hl (by decide) rfl (fun ls hl => ?_)
                    refine lv_iinc (v := zI ((i + 1 : Nat) : Int)) (lv' := [(5, zN (i + 1)), (3, zV (-1)), (4, zN (U2 F k)), (0, .ref t), (1, .ref (ad 12)), (2, zN k)]) C.1 C.2.1 dX4_behindMembers_70 hl (k := 1) rfl (zI_add _ _) (by decide) rfl (fun ls hl => ?_)
                    refine lv_goto (tgt := 32) C.1 C.2.1 dX4_behindMembers_73 (by decide) ?_
                    refine lv_iload C.1 C.2.1 dX4_behindMembers_32 (lv_at hl 0 rfl) ?_
                    refine lv_iload C.1 C.2.1 dX4_behindMembers_34 (lv_at hl 2 rfl) ?_
                    refine y_icmp_ge (tgt := 76) C (a := ((i + 1 : Nat) : Int)) (b := ((U2 F k : Nat) : Int)) dX4_behindMembers_36 (by decide) (by omega) (fun h36 => ?_) (fun h36 => ?_)
                    · refine lv_iload_n C.1 C.2.1 dX4_behindMembers_76 rfl (lv_at hl 1 rfl) ?_
                      exact hret _ _ _ _ (zI (-1)) hS (Or.inr ⟨_, _, (by rw [← he, show U2 F k - i = (U2 F k - (i + 1)) + 1 by omega]; exact xMem_e (by omega) (by rw [← aAs_x, ← he1, ← hr1]; exact e66)), rfl, _, hM, (chg_sx (by decide) (chg_sx (by decide) (chg_sf (by decide) (hc.mono (by decide) (by decide) : chg [8, 9] [12] τ τ1)))), rfl, rfl⟩) rfl dX4_behindMembers_77
                    · refine lv_iload_n C.1 C.2.1 dX4_behindMembers_39 rfl (lv_at hl 1 rfl) ?_
                      refine lv_iconst (v := zI (-1)) C.1 C.2.1 dX4_behindMembers_40 (by decide) ?_
                      refine y_icmp_eq (tgt := 76) C (a := -1) (b := -1) dX4_behindMembers_41 (by decide) (by omega) (fun h41 => ?_) (fun h41 => ?_)
                      · refine lv_iload_n C.1 C.2.1 dX4_behindMembers_76 rfl (lv_at hl 1 rfl) ?_
                        exact hret _ _ _ _ (zI (-1)) hS (Or.inr ⟨_, _, (by rw [← he, show U2 F k - i = (U2 F k - (i + 1)) + 1 by omega]; exact xMem_e (by omega) (by rw [← aAs_x, ← he1, ← hr1]; exact e66)), rfl, _, hM, (chg_sx (by decide) (chg_sx (by decide) (chg_sf (by decide) (hc.mono (by decide) (by decide) : chg [8, 9] [12] τ τ1)))), rfl, rfl⟩) rfl dX4_behindMembers_77
                      · exact False.elim (by first | omega | exact h41 rfl)
              · obtain ⟨rfl, hM⟩ := hp2 hc55
                refine lv_istore_n (lv' := [(3, zV (-1)), (5, zN i), (4, zN (U2 F k)), (0, .ref t), (1, .ref (ad 12)), (2, zN k)]) C.1 C.2.1 dX4_behindMembers_58 rfl hl (by decide) rfl (fun ls hl => ?_)
                refine lv_iload_n C.1 C.2.1 dX4_behindMembers_59 rfl (lv_at hl 0 rfl) ?_
                refine lv_iconst (v := zI (-1)) C.1 C.2.1 dX4_behindMembers_60 (by decide) ?_
                refine y_icmp_eq (tgt := 70) C (a := -1) (b := -1) dX4_behindMembers_61 (by decide) (by omega) (fun h61 => ?_) (fun h61 => ?_)
                · refine lv_iinc (v := zI ((i + 1 : Nat) : Int)) (lv' := [(5, zN (i + 1)), (3, zV (-1)), (4, zN (U2 F k)), (0, .ref t), (1, .ref (ad 12)), (2, zN k)]) C.1 C.2.1 dX4_behindMembers_70 hl (k := 1) rfl (zI_add _ _) (by decide) rfl (fun ls hl => ?_)
                  refine lv_goto (tgt := 32) C.1 C.2.1 dX4_behindMembers_73 (by decide) ?_
                  refine lv_iload C.1 C.2.1 dX4_behindMembers_32 (lv_at hl 0 rfl) ?_
                  refine lv_iload C.1 C.2.1 dX4_behindMembers_34 (lv_at hl 2 rfl) ?_
                  refine y_icmp_ge (tgt := 76) C (a := ((i + 1 : Nat) : Int)) (b := ((U2 F k : Nat) : Int)) dX4_behindMembers_36 (by decide) (by omega) (fun h36 => ?_) (fun h36 => ?_)
                  · refine lv_iload_n C.1 C.2.1 dX4_behindMembers_76 rfl (lv_at hl 1 rfl) ?_
                    exact hret _ _ _ _ (zI (-1)) hS (Or.inr ⟨_, _, (by rw [← he, show U2 F k - i = (U2 F k - (i + 1)) + 1 by omega]; exact (by rw [xMem_2 (by omega), he1, hr1])), rfl, _, hM, (chg_sx (by decide) (chg_sx (by decide) (chg_sf (by decide) (hc.mono (by decide) (by decide) : chg [8, 9] [12] τ τ1)))), rfl, rfl⟩) rfl dX4_behindMembers_77
                  · refine lv_iload_n C.1 C.2.1 dX4_behindMembers_39 rfl (lv_at hl 1 rfl) ?_
                    refine lv_iconst (v := zI (-1)) C.1 C.2.1 dX4_behindMembers_40 (by decide) ?_
                    refine y_icmp_eq (tgt := 76) C (a := -1) (b := -1) dX4_behindMembers_41 (by decide) (by omega) (fun h41 => ?_) (fun h41 => ?_)
                    · refine lv_iload_n C.1 C.2.1 dX4_behindMembers_76 rfl (lv_at hl 1 rfl) ?_
                      exact hret _ _ _ _ (zI (-1)) hS (Or.inr ⟨_, _, (by rw [← he, show U2 F k - i = (U2 F k - (i + 1)) + 1 by omega]; exact (by rw [xMem_2 (by omega), he1, hr1])), rfl, _, hM, (chg_sx (by decide) (chg_sx (by decide) (chg_sf (by decide) (hc.mono (by decide) (by decide) : chg [8, 9] [12] τ τ1)))), rfl, rfl⟩) rfl dX4_behindMembers_77
                    · exact False.elim (by first | omega | exact h41 rfl)
                · exact False.elim (by first | omega | exact h61 rfl)
      exact loop (U2 F k + 1) 0 (k + 2) mt _ _ ls _ hS hM (by omega) (by omega) chg.rf hB (fun j hj => by omega) (by unfold xMems; rw [if_pos (by omega), if_pos (by omega)]; rfl) hl
    · exact False.elim (by first | omega | exact h12 rfl)
  · skip
    refine lv_istore_n (lv' := [(3, zV (-1)), (0, .ref t), (1, .ref (ad 12)), (2, zN k)]) C.1 C.2.1 dX4_behindMembers_9 rfl hl (by decide) rfl (fun ls hl => ?_)
    refine lv_iload_n C.1 C.2.1 dX4_behindMembers_10 rfl (lv_at hl 0 rfl) ?_
    refine lv_iconst (v := zI (-1)) C.1 C.2.1 dX4_behindMembers_11 (by decide) ?_
    refine y_icmp_ne (tgt := 19) C (a := -1) (b := -1) dX4_behindMembers_12 (by decide) (by omega) (fun h12 => ?_) (fun h12 => ?_)
    · exact False.elim (by first | omega | exact h12 rfl)
    · refine lv_iconst (v := zI 0) C.1 C.2.1 dX4_behindMembers_15 (by decide) ?_
      refine lv_goto (tgt := 27) C.1 C.2.1 dX4_behindMembers_16 (by decide) ?_
      refine lv_istore (lv' := [(4, zN 0), (3, zV (-1)), (0, .ref t), (1, .ref (ad 12)), (2, zN k)]) C.1 C.2.1 dX4_behindMembers_27 hl (by decide) rfl (fun ls hl => ?_)
      refine lv_iconst (v := zI 0) C.1 C.2.1 dX4_behindMembers_29 (by decide) ?_
      refine lv_istore (lv' := [(5, zN 0), (4, zN 0), (3, zV (-1)), (0, .ref t), (1, .ref (ad 12)), (2, zN k)]) C.1 C.2.1 dX4_behindMembers_30 hl (by decide) rfl (fun ls hl => ?_)
      refine lv_iload C.1 C.2.1 dX4_behindMembers_32 (lv_at hl 0 rfl) ?_
      refine lv_iload C.1 C.2.1 dX4_behindMembers_34 (lv_at hl 1 rfl) ?_
      refine y_icmp_ge (tgt := 76) C (a := 0) (b := 0) dX4_behindMembers_36 (by decide) (by omega) (fun h36 => ?_) (fun h36 => ?_)
      · refine lv_iload_n C.1 C.2.1 dX4_behindMembers_76 rfl (lv_at hl 2 rfl) ?_
        exact hret _ _ _ _ (zI (-1)) hS (Or.inr ⟨_, _, uS_mm (by rw [← e6, he1, hr1]), rfl, _, hM, (chg_sx (by decide) (chg_sx (by decide) chg.rf)), rfl, rfl⟩) rfl dX4_behindMembers_77
      · exact False.elim (by first | omega | exact h36 rfl)

theorem zUp.tr {H H1 H2 : Heap} {a : Nat} (h : zUp H H1 a) (k : zUp H1 H2 a) : zUp H H2 a := ⟨k.1.trans h.1, fun q hq => (k.2 q hq).trans (h.2 q hq)⟩
theorem zUp.rf {H : Heap} {a : Nat} : zUp H H a := ⟨rfl, fun _ _ => rfl⟩

theorem c_X8_init (l : Launch) (Z : zT) {H : Heap} {q b w en ru : Nat} (hq : zAt Z H q (.inr (5, [.null, .null, .int 0, .int 0]))) : zM l Z yX8_init cX8_init 5 none (rmk 2) [.ref q, .ref b, .ref w, zN en, zN ru] H (fun x => x = q) 0 0 (fun v H' => v = none ∧ zUp H H' q ∧ zAt Z H' q (.inr (5, [.ref b, .ref w, zN en, zN ru]))) := by
  refine zM.introV (own := RX8) ⟨by decide, rfl⟩ (Nat.le_of_ble_eq_true rfl) ?_
  intro p e s m args below meth c Q ls hH C hnm hl hret
  have hS : va_S (fun x => x = q) s.heap H [] := by rw [hH]; exact va_S.rf
  have hl : lv_has ls 5 [(0, .ref q), (1, .ref b), (2, .ref w), (3, zN en), (4, zN ru)] := hl
  have hu0 : zUp H H q := zUp.rf
  refine lv_aload_n C.1 C.2.1 dX8_init_0 rfl (lv_at hl 0 rfl) ?_
  refine z_objI C zw_8_17 hl.1 (Nat.le_of_ble_eq_true rfl) ⟨Nat.le_of_ble_eq_true rfl, Nat.le_of_ble_eq_true rfl⟩ dX8_init_1 ?_
  refine lv_aload_n C.1 C.2.1 dX8_init_4 rfl (lv_at hl 0 rfl) ?_
  refine lv_aload_n C.1 C.2.1 dX8_init_5 rfl (lv_at hl 1 rfl) ?_
  refine z_putF C (v := .ref b) tyX8 hq rfl bi_wsX80 tyX8_ok nmX8 0 (by decide) zw_8_18 rfl rfl hnm rfl rfl rfl (Nat.le_of_ble_eq_true rfl) hS rfl dX8_init_6 (fun H locs hu hq hS => ?_)
  have hu0 := hu0.tr hu
  refine lv_aload_n C.1 C.2.1 dX8_init_9 rfl (lv_at hl 0 rfl) ?_
  refine lv_aload_n C.1 C.2.1 dX8_init_10 rfl (lv_at hl 2 rfl) ?_
  refine z_putF C (v := .ref w) tyX8 hq rfl bi_wsX80 tyX8_ok nmX8 1 (by decide) zw_8_19 rfl rfl hnm rfl rfl rfl (Nat.le_of_ble_eq_true rfl) hS rfl dX8_init_11 (fun H locs hu hq hS => ?_)
  have hu0 := hu0.tr hu
  refine lv_aload_n C.1 C.2.1 dX8_init_14 rfl (lv_at hl 0 rfl) ?_
  refine lv_iload_n C.1 C.2.1 dX8_init_15 rfl (lv_at hl 3 rfl) ?_
  refine z_putF C (v := zN en) tyX8 hq rfl bi_wsX80 tyX8_ok nmX8 2 (by decide) zw_8_20 rfl rfl hnm rfl rfl rfl (Nat.le_of_ble_eq_true rfl) hS rfl dX8_init_16 (fun H locs hu hq hS => ?_)
  have hu0 := hu0.tr hu
  refine lv_aload_n C.1 C.2.1 dX8_init_19 rfl (lv_at hl 0 rfl) ?_
  refine lv_iload C.1 C.2.1 dX8_init_20 (lv_at hl 4 rfl) ?_
  refine z_putF C (v := zN ru) tyX8 hq rfl bi_wsX80 tyX8_ok nmX8 3 (by decide) zw_8_21 rfl rfl hnm rfl rfl rfl (Nat.le_of_ble_eq_true rfl) hS rfl dX8_init_22 (fun H locs hu hq hS => ?_)
  have hu0 := hu0.tr hu
  exact hret _ _ _ _ hS ⟨rfl, hu0, hq⟩ dX8_init_25
