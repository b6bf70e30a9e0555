/-! the component: rule 15 -/
theorem swF_b (k : Nat) : k + 1 ≤ swF k ∧ swF k ≤ k + 4 := by unfold swF; omega
theorem wdN_c (w : Nat) : wdN w = 0 ∨ wdN w = 4 ∨ wdN w = 6 := by unfold wdN; (repeat' split) <;> omega
theorem spM_len {b : Nat} (h : b < 256) (h1 : b ≠ 170 ∧ b ≠ 171 ∧ b ≠ 196 ∧ b ≠ 188) : spM b = (if b < 201 then (lens b : Int) else 0) ∧ 0 ≤ spM b := by
  have : ∀ b, b < 256 → (b ≠ 170 ∧ b ≠ 171 ∧ b ≠ 196 ∧ b ≠ 188) → spM b = (if b < 201 then (lens b : Int) else 0) ∧ 0 ≤ spM b := by decide +kernel
  exact this b h h1
theorem lkOk_lu {F : Nat → Nat} {n ca w : Nat} : ∀ c i, (1 ≤ c → ca + w + 8 + 8 * (i + c) ≤ n + 4) → lkOk F n ca w c i = luOk F ca w c i := by
  intro c
  induction c with
  | zero => intro i _; rfl
  | succ c ih =>
    intro i h
    have h := h (by omega)
    unfold lkOk luOk
    rw [B4_in (k := ca + w + 8 + 8 * i) (by omega), B4_in (k := ca + w + 8 * i) (by omega), show ca + (w + 8 + 8 * i) = ca + w + 8 + 8 * i by omega, show ca + (w + 8 * i) = ca + w + 8 * i by omega, ih (i + 1) (fun _ => by omega)]
/-- the component's length and the span: they suit one another -/
theorem lnC_sp {F : Nat → Nat} {n ca sz k : Nat} (hF : isF F) (hs : ca + sz < n) (hk : k < sz) : (0 < spR F ca sz k → lnC F n ca k = spR F ca sz k ∧ spR F ca sz k ≤ (sz : Int) - k) ∧ (¬ 0 < spR F ca sz k → lnC F n ca k < 1 ∨ (sz : Int) - k < lnC F n ca k) := by
  have hw := swF_b k
  have hb := hF (ca + k)
  have h188 : spM 188 = 2 := by decide
  have h196 : spM 196 = -2 := by decide
  have h170 : spM 170 = -1 := by decide
  have h171 : spM 171 = -1 := by decide
  have R0 : spR F ca sz k = if spX F ca sz k ≤ 0 ∨ (sz : Int) < k + spX F ca sz k then -1 else if F (ca + k) = 188 ∧ F (ca + (k + 1)) ≠ 10 then -1 else spX F ca sz k := rfl
  by_cases a1 : F (ca + k) = 170
  · have e1 : spX F ca sz k = spW F ca sz k 170 := by
      have : sp1 F ca sz k = -1 := by unfold sp1; rw [a1, h170]; exact if_neg (by decide)
      unfold spX; rw [if_pos this, a1]
    have e2 : lnC F n ca k = tlC F n ca k := by unfold lnC; rw [if_pos a1]
    rw [e2]
    have hS : spW F ca sz k 170 = if sz < swF k + 12 then 0 else if S4 F (ca + (swF k + 8)) - S4 F (ca + (swF k + 4)) < 0 ∨ 200 < S4 F (ca + (swF k + 8)) - S4 F (ca + (swF k + 4)) then 0 else (swF k : Int) + 12 + 4 * (S4 F (ca + (swF k + 8)) - S4 F (ca + (swF k + 4)) + 1) - k := by unfold spW; rfl
    by_cases b1 : sz < swF k + 12
    · rw [if_pos b1] at hS
      have : ¬ 0 < spR F ca sz k := by rw [R0, e1, hS, if_pos (Or.inl (by omega))]; decide
      refine ⟨fun z => absurd z this, fun _ => ?_⟩
      unfold tlC
      split <;> omega
    · rw [if_neg b1] at hS
      have eT : tlC F n ca k = spW F ca sz k 170 := by
        rw [hS]
        unfold tlC
        rw [B4_in (k := ca + swF k + 8) (by omega), B4_in (k := ca + swF k + 4) (by omega), show ca + (swF k + 8) = ca + swF k + 8 by omega, show ca + (swF k + 4) = ca + swF k + 4 by omega]
      rw [eT, R0, e1]
      by_cases c1 : spW F ca sz k 170 ≤ 0 ∨ (sz : Int) < k + spW F ca sz k 170
      · rw [if_pos c1]; exact ⟨fun z => absurd z (by decide), fun _ => by omega⟩
      · rw [if_neg c1, if_neg (by omega)]; exact ⟨fun _ => ⟨rfl, by omega⟩, fun z => absurd (show 0 < spW F ca sz k 170 by omega) z⟩
  · by_cases a2 : F (ca + k) = 171
    · have e1 : spX F ca sz k = spW F ca sz k 171 := by
        have : sp1 F ca sz k = -1 := by unfold sp1; rw [a2, h171]; exact if_neg (by decide)
        unfold spX; rw [if_pos this, a2]
      have e2 : lnC F n ca k = llC F n ca k := by unfold lnC; rw [if_neg a1, if_pos a2]
      rw [e2]
      have hS : spW F ca sz k 171 = if sz < swF k + 8 then 0 else if S4 F (ca + (swF k + 4)) < 0 ∨ 200 < S4 F (ca + (swF k + 4)) ∨ (sz : Int) < swF k + 8 + 8 * S4 F (ca + (swF k + 4)) then 0 else if luOk F ca (swF k) ((S4 F (ca + (swF k + 4))).toNat - 1) 1 = true then (swF k : Int) + 8 + 8 * S4 F (ca + (swF k + 4)) - k else 0 := by unfold spW; rfl
      by_cases b1 : sz < swF k + 8
      · rw [if_pos b1] at hS
        have : ¬ 0 < spR F ca sz k := by rw [R0, e1, hS, if_pos (Or.inl (by omega))]; decide
        refine ⟨fun z => absurd z this, fun _ => ?_⟩
        unfold llC
        (repeat' split) <;> omega
      · rw [if_neg b1, show ca + (swF k + 4) = ca + swF k + 4 by omega] at hS
        have e3 : B4 F n ((ca + swF k + 4 : Nat) : Int) = S4 F (ca + swF k + 4) := B4_in (by omega)
        by_cases c1 : S4 F (ca + swF k + 4) < 0 ∨ 200 < S4 F (ca + swF k + 4) ∨ (sz : Int) < swF k + 8 + 8 * S4 F (ca + swF k + 4)
        · rw [if_pos c1] at hS
          have : ¬ 0 < spR F ca sz k := by rw [R0, e1, hS, if_pos (Or.inl (by omega))]; decide
          refine ⟨fun z => absurd z this, fun _ => ?_⟩
          unfold llC
          rw [e3]
          (repeat' split) <;> omega
        · rw [if_neg c1] at hS
          have eT : llC F n ca k = spW F ca sz k 171 := by
            rw [hS]
            unfold llC
            rw [e3, if_neg (by omega), lkOk_lu _ _ (fun _ => by omega)]
          rw [eT, R0, e1]
          by_cases c2 : spW F ca sz k 171 ≤ 0 ∨ (sz : Int) < k + spW F ca sz k 171
          · rw [if_pos c2]; exact ⟨fun z => absurd z (by decide), fun _ => by omega⟩
          · rw [if_neg c2, if_neg (by omega)]; exact ⟨fun _ => ⟨rfl, by omega⟩, fun z => absurd (show 0 < spW F ca sz k 171 by omega) z⟩
    · by_cases a3 : F (ca + k) = 196
      · have e1 : spX F ca sz k = if k + 1 < sz then wdN (F (ca + (k + 1))) else 0 := by
          have : sp1 F ca sz k = if k + 1 < sz then wdN (F (ca + (k + 1))) else 0 := by unfold sp1; rw [a3, if_pos h196]
          have h9 := wdN_c (F (ca + (k + 1)))
          unfold spX
          rw [this, if_neg (by split <;> omega)]
        have e2 : lnC F n ca k = wdN (B1 F n ((ca + k + 1 : Nat) : Int)) := by unfold lnC; rw [if_neg a1, if_neg a2, if_pos a3]
        have h9 := wdN_c (B1 F n ((ca + k + 1 : Nat) : Int))
        rw [e2, R0, e1]
        by_cases b1 : k + 1 < sz
        · rw [if_pos b1, B1_in (k := ca + k + 1) (by omega), show ca + (k + 1) = ca + k + 1 by omega]
          by_cases c1 : wdN (F (ca + k + 1)) ≤ 0 ∨ (sz : Int) < k + wdN (F (ca + k + 1))
          · rw [if_pos c1]; exact ⟨fun z => absurd z (by decide), fun _ => by omega⟩
          · rw [if_neg c1, if_neg (by omega)]; exact ⟨fun _ => ⟨rfl, by omega⟩, fun z => absurd (show 0 < wdN (F (ca + k + 1)) by omega) z⟩
        · rw [if_neg b1, if_pos (Or.inl (by omega))]
          exact ⟨fun z => absurd z (by decide), fun _ => by omega⟩
      · by_cases a4 : F (ca + k) = 188
        · have e1 : spX F ca sz k = 2 := by
            have : sp1 F ca sz k = 2 := by unfold sp1; rw [a4, h188]; exact if_neg (by decide)
            unfold spX; rw [this]; exact if_neg (by decide)
          have e2 : lnC F n ca k = if B1 F n ((ca + k + 1 : Nat) : Int) = 10 then 2 else 0 := by unfold lnC; rw [if_neg a1, if_neg a2, if_neg a3, if_pos a4]
          rw [e2, R0, e1, B1_in (k := ca + k + 1) (by omega), show ca + (k + 1) = ca + k + 1 by omega]
          by_cases c1 : (2 : Int) ≤ 0 ∨ (sz : Int) < k + 2
          · rw [if_pos c1]; exact ⟨fun z => absurd z (by decide), fun _ => by split <;> omega⟩
          · rw [if_neg c1]
            by_cases c2 : F (ca + k + 1) = 10
            · rw [if_neg (fun z => z.2 c2), if_pos c2]; exact ⟨fun _ => ⟨rfl, by omega⟩, fun z => absurd (by decide) z⟩
            · rw [if_pos ⟨a4, c2⟩, if_neg c2]; exact ⟨fun z => absurd z (by decide), fun _ => by omega⟩
        · obtain ⟨m1, m2⟩ := spM_len hb ⟨a1, a2, a3, a4⟩
          have e1 : spX F ca sz k = spM (F (ca + k)) := by
            have : sp1 F ca sz k = spM (F (ca + k)) := by unfold sp1; rw [if_neg (by omega)]
            unfold spX; rw [this, if_neg (by omega)]
          have e2 : lnC F n ca k = spM (F (ca + k)) := by unfold lnC; rw [if_neg a1, if_neg a2, if_neg a3, if_neg a4, m1]
          rw [e2, R0, e1]
          by_cases c1 : spM (F (ca + k)) ≤ 0 ∨ (sz : Int) < k + spM (F (ca + k))
          · rw [if_pos c1]; exact ⟨fun z => absurd z (by decide), fun _ => by omega⟩
          · rw [if_neg c1, if_neg (fun z => a4 z.1)]; exact ⟨fun _ => ⟨rfl, by omega⟩, fun z => absurd (show 0 < spM (F (ca + k)) by omega) z⟩
theorem lnC_rg {F : Nat → Nat} {n ca k : Nat} (hk : k ≤ 16000) : -20000 ≤ lnC F n ca k ∧ lnC F n ca k ≤ 20000 := by
  have hw := swF_b k
  have h9 := wdN_c (B1 F n ((ca + k + 1 : Nat) : Int))
  have hl := lens_lt (F (ca + k))
  unfold lnC tlC llC
  (repeat' split) <;> omega

theorem stF_sz {F : Nat → Nat} {ca sz i : Nat} (h : ∀ j, j < i → stF F ca sz j < sz ∧ 0 < spR F ca sz (stF F ca sz j)) : i ≤ stF F ca sz i := stF_le (N := i) h i (Nat.le_refl _)
theorem nWh_of {F : Nat → Nat} {ca sz N : Nat} (h1 : stF F ca sz N = sz) (h2 : ∀ i, i < N → stF F ca sz i < sz ∧ 0 < spR F ca sz (stF F ca sz i)) : nWh F ca sz = N := (isWh_n ⟨h1, h2⟩).symm
theorem spRin {F : Nat → Nat} {ca sz k : Nat} (h : 0 < spR F ca sz k) : k + (spR F ca sz k).toNat ≤ sz := by
  unfold spR at *
  split at h
  · omega
  · rename_i z
    split at h
    · omega
    · rename_i y
      rw [if_neg z, if_neg y]
      omega

set_option maxHeartbeats 4000000 in
set_option maxRecDepth 20000 in
theorem c_X5_cutIntoRows (l : Launch) (Z : zT) {H : Heap} {ad : Nat → Nat} {τ : mS} {X : List (Nat × va_E)} (hM : isC Z H ad τ X) {F : Nat → Nat} {n : Nat} (hB : cSrc τ F n) {ca sz f0 bm : Nat} (hbm : bm < 24) (hcs : ca + sz < n) (hsz : sz ≤ 1200) (hf0 : f0 + sz ≤ 16000) (h24 : τ.2.1 24 bm = zI (ca : Int)) (h25 : τ.2.1 25 bm = zI (sz : Int)) (h28 : τ.2.1 28 bm = zI (f0 : Int)) : zM l Z yX5_cutIntoRows cX5_cutIntoRows 5 (some .int) (rmk 5) [.ref (ad 0), .ref (ad (16 + bm))] H (cA ad) 0 0 (fun v H' => v = some (zV (oI (x15 F ca sz))) ∧ ∃ τ' : mS, isC Z H' ad τ' X ∧ chg [] [14, 29] τ τ' ∧ (∀ r j, r ≠ 14 → r ≠ 29 → τ'.2.1 r j = τ.2.1 r j) ∧ (∀ j, j ≠ bm → τ'.2.1 29 j = τ.2.1 29 j) ∧ (∀ j, j < f0 → τ'.2.1 14 j = τ.2.1 14 j) ∧ (x15 F ca sz = none → τ'.2.1 29 bm = zI (nWh F ca sz : Int) ∧ ∀ j, j < nWh F ca sz → τ'.2.1 14 (f0 + j) = zI ((ca + stF F ca sz j : Nat) : Int))) := by
  have hn := hB.2.2.2
  refine zM.introI (own := RX5) ⟨by decide, rfl⟩ (Nat.le_of_ble_eq_true rfl) ?_
  intro p e s m args below meth c Q ls hH C hl hret
  have hS : va_S (cA ad) s.heap H [] := by rw [hH]; exact va_S.rf
  have hl : lv_has ls 5 [(0, .ref (ad 0)), (1, .ref (ad (16 + bm)))] := hl
  refine lv_aload_n C.1 C.2.1 dX5_cutIntoRows_0 rfl (lv_at hl 1 rfl) ?_
  refine z_get C (v := .int (τ.2.1 24 bm)) (hM.bod bm (by omega)) rfl bi_wsX00 4 (by decide) zw_20_16 rfl rfl dX5_cutIntoRows_1 ?_
  refine z_re (y := zI ((ca : Nat) : Int)) h24 ?_
  refine lv_aload_n C.1 C.2.1 dX5_cutIntoRows_4 rfl (lv_at hl 1 rfl) ?_
  refine z_get C (v := .int (τ.2.1 25 bm)) (hM.bod bm (by omega)) rfl bi_wsX00 5 (by decide) zw_20_17 rfl rfl dX5_cutIntoRows_5 ?_
  refine z_re (y := zI ((sz : Nat) : Int)) h25 ?_
  refine y_iaddN C (a := ca) (b := sz) dX5_cutIntoRows_8 ?_
  refine lv_istore_n (lv' := [(2, zN (ca + sz)), (0, .ref (ad 0)), (1, .ref (ad (16 + bm)))]) C.1 C.2.1 dX5_cutIntoRows_9 rfl hl (by decide) rfl (fun ls hl => ?_)
  refine lv_aload_n C.1 C.2.1 dX5_cutIntoRows_10 rfl (lv_at hl 2 rfl) ?_
  refine z_get C (v := .int (τ.2.1 24 bm)) (hM.bod bm (by omega)) rfl bi_wsX00 4 (by decide) zw_20_16 rfl rfl dX5_cutIntoRows_11 ?_
  refine z_re (y := zI ((ca : Nat) : Int)) h24 ?_
  refine lv_istore_n (lv' := [(3, zN ca), (2, zN (ca + sz)), (0, .ref (ad 0)), (1, .ref (ad (16 + bm)))]) C.1 C.2.1 dX5_cutIntoRows_14 rfl hl (by decide) rfl (fun ls hl => ?_)
  refine lv_aload_n C.1 C.2.1 dX5_cutIntoRows_15 rfl (lv_at hl 3 rfl) ?_
  refine lv_iconst (v := zI 0) C.1 C.2.1 dX5_cutIntoRows_16 (by decide) ?_
  refine z_put C (v := zN 0) tyX0 (hM.bod bm (by omega)) rfl bi_wsX00 tyX0_ok nmX0 9 (by decide) zw_20_11 rfl rfl rfl rfl (Nat.le_of_ble_eq_true rfl) hS (cA.k _ (by omega)) dX5_cutIntoRows_17 (fun H locs hu hn hS => ?_)
  have hM := hM.sb (m := bm) (by omega) 9 (by decide) hu hn
  have hB : cSrc (sb9 τ 9 bm (zI 0)) F n := hB.sf (by decide)
  have loop : ∀ (fu : Nat) (i : Nat) (τ1 : mS) (H : Heap) (ls : Array Slot) (locs : List Loc), va_S (cA ad) s.heap H locs → isC Z H ad τ1 X → (i ≤ sz ∧ sz < i + fu) → (chg [] [14, 29] τ τ1) → (∀ r j, r ≠ 14 → r ≠ 29 → τ1.2.1 r j = τ.2.1 r j) → (∀ j, j ≠ bm → τ1.2.1 29 j = τ.2.1 29 j) → (∀ j, j < f0 → τ1.2.1 14 j = τ.2.1 14 j) → (τ1.2.1 29 bm = zI (i : Int)) → (cSrc τ1 F n) → (∀ j, j < i → stF F ca sz j < sz ∧ 0 < spR F ca sz (stF F ca sz j)) → (∀ j, j < i → τ1.2.1 14 (f0 + j) = zI ((ca + stF F ca sz j : Nat) : Int)) → (stF F ca sz i ≤ sz) → (xWh F ca sz (sz + 1 - i) (stF F ca sz i) = x15 F ca sz) → lv_has ls 5 [(3, zN (ca + stF F ca sz i)), (2, zN (ca + sz)), (0, .ref (ad 0)), (1, .ref (ad (16 + bm)))] → W p l e (rmk 5) s m args below meth c H locs 0 0 Q (F0 m 20 ls []) := by
    intro fu
    induction fu with
    | zero =>
      intro i τ1 H ls locs hS hM hi hc hw hw29 hw14 h29 hB hst hin hq he hl
      (exact absurd hi.2 (by omega))
    | succ fu ih_loop =>
      intro i τ1 H ls locs hS hM hi hc hw hw29 hw14 h29 hB hst hin hq he hl
      refine lv_iload_n C.1 C.2.1 dX5_cutIntoRows_20 rfl (lv_at hl 0 rfl) ?_
      refine lv_iload_n C.1 C.2.1 dX5_cutIntoRows_21 rfl (lv_at hl 1 rfl) ?_
      refine y_icmp_ge (tgt := 90) C (a := ((ca + stF F ca sz i : Nat) : Int)) (b := ((ca + sz : Nat) : Int)) dX5_cutIntoRows_22 (by decide) (by omega) (fun h22 => ?_) (fun h22 => ?_)
      · refine lv_iconst (v := zI (-1)) C.1 C.2.1 dX5_cutIntoRows_90 (by decide) ?_
        exact hret _ _ _ _ (zI (-1)) hS ⟨congrArg (fun x : Int => some (zV x)) (by rw [← he, xWh_n (by omega)]; rfl), τ1, hM, hc, hw, hw29, hw14, fun _ => (by have hN := nWh_of (show stF F ca sz i = sz by omega) hst; rw [hN]; exact ⟨h29, hin⟩)⟩ rfl dX5_cutIntoRows_91
      · refine lv_aload_n C.1 C.2.1 dX5_cutIntoRows_25 rfl (lv_at hl 2 rfl) ?_
        refine z_get C (v := .ref (ad 1)) hM.img rfl bi_wsX20 0 (by decide) zw_20_18 rfl rfl dX5_cutIntoRows_26 ?_
        refine lv_iload_n C.1 C.2.1 dX5_cutIntoRows_29 rfl (lv_at hl 0 rfl) ?_
        refine lv_aload_n C.1 C.2.1 dX5_cutIntoRows_30 rfl (lv_at hl 3 rfl) ?_
        refine z_get C (v := .int (τ1.2.1 24 bm)) (hM.bod bm (by omega)) rfl bi_wsX00 4 (by decide) zw_20_16 rfl rfl dX5_cutIntoRows_31 ?_
        refine z_re (y := zI ((ca : Nat) : Int)) ((hw 24 bm (by decide) (by decide)).trans h24) ?_
        refine z_readS C (As := [.ref (ad 1), zN (ca + stF F ca sz i), zN ca]) (rest := []) (c_X3_lengthAt l Z hM hB (ca := ca) (k := stF F ca sz i) (by omega)) ⟨⟨zw_20_23, zw_20_22, zw_20_20⟩, zd_X3_lengthAt⟩ zw_20_21 ⟨Nat.le_of_ble_eq_true rfl, Nat.le_of_ble_eq_true rfl⟩ ⟨rfl, rfl⟩ rfl hl.1 rfl (Nat.le_of_ble_eq_true rfl) dX5_cutIntoRows_34 ⟨Nat.zero_le _, Nat.zero_le _⟩ hS (fun locs hS => ?_)
        have hln := lnC_sp (n := n) hB.1 hcs (k := stF F ca sz i) (by omega)
        have hlr := lnC_rg (F := F) (n := n) (ca := ca) (k := stF F ca sz i) (by omega)
        have hsi := spRin (F := F) (ca := ca) (sz := sz) (k := stF F ca sz i)
        refine lv_istore (lv' := [(4, zV (lnC F n ca (stF F ca sz i))), (3, zN (ca + stF F ca sz i)), (2, zN (ca + sz)), (0, .ref (ad 0)), (1, .ref (ad (16 + bm)))]) C.1 C.2.1 dX5_cutIntoRows_37 hl (by decide) rfl (fun ls hl => ?_)
        refine lv_iload C.1 C.2.1 dX5_cutIntoRows_39 (lv_at hl 0 rfl) ?_
        refine lv_iconst (v := zI 1) C.1 C.2.1 dX5_cutIntoRows_41 (by decide) ?_
        refine y_icmp_lt (tgt := 53) C (a := lnC F n ca (stF F ca sz i)) (b := 1) dX5_cutIntoRows_42 (by decide) (by omega) (fun h42 => ?_) (fun h42 => ?_)
        · have hnp : ¬ 0 < spR F ca sz (stF F ca sz i) := fun z => by have := hln.1 z; omega
          refine lv_iload_n C.1 C.2.1 dX5_cutIntoRows_53 rfl (lv_at hl 1 rfl) ?_
          exact hret _ _ _ _ (zI ((ca + stF F ca sz i : Nat) : Int)) hS ⟨congrArg (fun x : Int => some (zV x)) (by rw [← he, show sz + 1 - i = (sz + 1 - (i + 1)) + 1 by omega, xWh_f (by omega) hnp]; rfl), τ1, hM, hc, hw, hw29, hw14, fun z => absurd z (by rw [← he, show sz + 1 - i = (sz + 1 - (i + 1)) + 1 by omega, xWh_f (by omega) hnp]; simp)⟩ rfl dX5_cutIntoRows_54
        · refine lv_iload C.1 C.2.1 dX5_cutIntoRows_45 (lv_at hl 0 rfl) ?_
          refine lv_iload_n C.1 C.2.1 dX5_cutIntoRows_47 rfl (lv_at hl 2 rfl) ?_
          refine lv_iload_n C.1 C.2.1 dX5_cutIntoRows_48 rfl (lv_at hl 1 rfl) ?_
          refine y_isub C (a := ((ca + sz : Nat) : Int)) (b := ((ca + stF F ca sz i : Nat) : Int)) dX5_cutIntoRows_49 ?_
          refine y_icmp_le (tgt := 55) C (a := lnC F n ca (stF F ca sz i)) (b := ((ca + sz : Nat) : Int) - ((ca + stF F ca sz i : Nat) : Int)) dX5_cutIntoRows_50 (by decide) (by omega) (fun h50 => ?_) (fun h50 => ?_)
          · have hsp : 0 < spR F ca sz (stF F ca sz i) := Classical.byContradiction fun z => by have := hln.2 z; omega
            have hle := (hln.1 hsp).1
            have his := stF_sz hst
            refine lv_aload_n C.1 C.2.1 dX5_cutIntoRows_55 rfl (lv_at hl 3 rfl) ?_
            refine z_get C (v := .ref (ad 14)) hM.img rfl bi_wsX20 5 (by decide) zw_20_19 rfl rfl dX5_cutIntoRows_56 ?_
            refine lv_aload_n C.1 C.2.1 dX5_cutIntoRows_59 rfl (lv_at hl 4 rfl) ?_
            refine z_get C (v := .int (τ1.2.1 28 bm)) (hM.bod bm (by omega)) rfl bi_wsX00 8 (by decide) zw_20_10 rfl rfl dX5_cutIntoRows_60 ?_
            refine z_re (y := zI ((f0 : Nat) : Int)) ((hw 28 bm (by decide) (by decide)).trans h28) ?_
            refine lv_aload_n C.1 C.2.1 dX5_cutIntoRows_63 rfl (lv_at hl 4 rfl) ?_
            refine z_get C (v := .int (τ1.2.1 29 bm)) (hM.bod bm (by omega)) rfl bi_wsX00 9 (by decide) zw_20_11 rfl rfl dX5_cutIntoRows_64 ?_
            refine z_re (y := zI ((i : Nat) : Int)) h29 ?_
            refine y_iaddN C (a := f0) (b := i) dX5_cutIntoRows_67 ?_
            refine lv_iload_n C.1 C.2.1 dX5_cutIntoRows_68 rfl (lv_at hl 1 rfl) ?_
            refine z_callSN C (As := [.ref (ad 14), zN (f0 + i), zN (ca + stF F ca sz i)]) (rest := []) (c_put l Z hM 14 (by decide) (f0 + i) rfl (by show _ < 16000; omega) (zI ((ca + stF F ca sz i : Nat) : Int))) ⟨⟨zw_10_12, zw_1_2⟩, zd_X11_put⟩ (by decide) zw_10_11 ⟨Nat.le_of_ble_eq_true rfl, Nat.le_of_ble_eq_true rfl⟩ ⟨rfl, rfl⟩ rfl hl.1 rfl (Nat.le_of_ble_eq_true rfl) dX5_cutIntoRows_69 ⟨Nat.zero_le _, Nat.zero_le _⟩ hS (fun _ h => ⟨14, by decide, h⟩) (fun v H locs hp hS _ _ => ?_)
            obtain ⟨rfl, hM⟩ := hp
            have hB : cSrc (sf τ1 14 (upd (τ1.2.1 14) (f0 + i) (zI ((ca + stF F ca sz i : Nat) : Int)))) F n := hB.sf (by decide)
            refine lv_aload_n C.1 C.2.1 dX5_cutIntoRows_72 rfl (lv_at hl 4 rfl) ?_
            refine lv_dup C.1 C.2.1 dX5_cutIntoRows_73 rfl ?_
            refine z_get C (v := .int ((sf τ1 14 (upd (τ1.2.1 14) (f0 + i) (zI ((ca + stF F ca sz i : Nat) : Int)))).2.1 29 bm)) (hM.bod bm (by omega)) rfl bi_wsX00 9 (by decide) zw_20_11 rfl rfl dX5_cutIntoRows_74 ?_
            refine z_re (y := zI ((i : Nat) : Int)) ((congrFun (sf_no τ1 _ (by decide)) _).trans h29) ?_
            refine lv_iconst (v := zI 1) C.1 C.2.1 dX5_cutIntoRows_77 (by decide) ?_
            refine y_iaddN C (a := i) (b := 1) dX5_cutIntoRows_78 ?_
            refine z_put C (v := zN (i + 1)) tyX0 (hM.bod bm (by omega)) rfl bi_wsX00 tyX0_ok nmX0 9 (by decide) zw_20_11 rfl rfl rfl rfl (Nat.le_of_ble_eq_true rfl) hS (cA.k _ (by omega)) dX5_cutIntoRows_79 (fun H locs hu hn hS => ?_)
            have hM := hM.sb (m := bm) (by omega) 9 (by decide) hu hn
            have hB : cSrc (sb9 (sf τ1 14 (upd (τ1.2.1 14) (f0 + i) (zI ((ca + stF F ca sz i : Nat) : Int)))) 9 bm (zI ((i + 1 : Nat) : Int))) F n := hB.sf (by decide)
            refine lv_iload_n C.1 C.2.1 dX5_cutIntoRows_82 rfl (lv_at hl 1 rfl) ?_
            refine lv_iload C.1 C.2.1 dX5_cutIntoRows_83 (lv_at hl 0 rfl) ?_
            refine y_iadd C (a := ((ca + stF F ca sz i : Nat) : Int)) (b := lnC F n ca (stF F ca sz i)) dX5_cutIntoRows_85 ?_
            refine z_re (y := zI ((ca + stF F ca sz (i + 1) : Nat) : Int)) (zI_c (by rw [stF_s, hle]; omega)) ?_
            refine lv_istore_n (lv' := [(3, zN (ca + stF F ca sz (i + 1))), (4, zV (lnC F n ca (stF F ca sz i))), (2, zN (ca + sz)), (0, .ref (ad 0)), (1, .ref (ad (16 + bm)))]) C.1 C.2.1 dX5_cutIntoRows_86 rfl hl (by decide) rfl (fun ls hl => ?_)
            refine lv_goto (tgt := 20) C.1 C.2.1 dX5_cutIntoRows_87 (by decide) ?_
            exact ih_loop (i + 1) _ _ ls _ hS hM (by have := stF_sz hst; omega) (chg_sf (by decide) (chg_sf (by decide) hc)) (fun r j h1 h2 => (congrFun (sf_no _ _ h2) j).trans ((congrFun (sf_no _ _ h1) j).trans (hw r j h1 h2))) (fun j hj => ((congrFun (sf_at _ 29 _) j).trans (upd_ne hj)).trans ((congrFun (sf_no _ _ (by decide)) j).trans (hw29 j hj))) (fun j hj => (congrFun (sf_no _ _ (by decide)) j).trans (((congrFun (sf_at τ1 14 _) j).trans (upd_ne (by omega))).trans (hw14 j hj))) (sb9_at _ 9 bm _) hB (fun j hj => by rcases Nat.lt_succ_iff_lt_or_eq.mp hj with h | h; (exact hst j h); (subst h; exact ⟨by omega, hsp⟩)) (fun j hj => (congrFun (sf_no _ _ (by decide)) _).trans ((congrFun (sf_at τ1 14 _) _).trans (by rcases Nat.lt_succ_iff_lt_or_eq.mp hj with h | h; (exact (upd_ne (by omega)).trans (hin j h)); (subst h; exact upd_2)))) (by rw [stF_s]; have := hsi hsp; omega) (by rw [← he, stF_s, show sz + 1 - i = (sz + 1 - (i + 1)) + 1 by omega]; exact (xWh_s (by omega) hsp).symm) (lv_sub hl [0, 2, 3, 4] rfl)
          · have hnp : ¬ 0 < spR F ca sz (stF F ca sz i) := fun z => by have := hln.1 z; omega
            refine lv_iload_n C.1 C.2.1 dX5_cutIntoRows_53 rfl (lv_at hl 1 rfl) ?_
            exact hret _ _ _ _ (zI ((ca + stF F ca sz i : Nat) : Int)) hS ⟨congrArg (fun x : Int => some (zV x)) (by rw [← he, show sz + 1 - i = (sz + 1 - (i + 1)) + 1 by omega, xWh_f (by omega) hnp]; rfl), τ1, hM, hc, hw, hw29, hw14, fun z => absurd z (by rw [← he, show sz + 1 - i = (sz + 1 - (i + 1)) + 1 by omega, xWh_f (by omega) hnp]; simp)⟩ rfl dX5_cutIntoRows_54
  exact loop (sz + 1) 0 _ _ ls _ hS hM (by omega) (chg_sf (by decide) chg.rf) (fun r j h1 h2 => congrFun (sf_no τ _ h2) j) (fun j hj => (congrFun (sf_at τ 29 _) j).trans (upd_ne hj)) (fun j _ => congrFun (sf_no τ _ (by decide)) j) (sb9_at τ 9 bm _) hB (fun j hj => by omega) (fun j hj => by omega) (Nat.zero_le _) rfl hl
