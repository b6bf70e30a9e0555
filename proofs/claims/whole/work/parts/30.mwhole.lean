/-! the model: wholes -/
/-- where the i-th instruction of the code at ca begins -/
def stF (F : Nat → Nat) (ca sz : Nat) : Nat → Nat
  | 0 => 0
  | i + 1 => stF F ca sz i + (spR F ca sz (stF F ca sz i)).toNat
/-- the numbers of the places, when i instructions are seen -/
def nbR (F : Nat → Nat) (ca sz : Nat) : Nat → Nat → Int
  | 0, _ => -1
  | i + 1, j => if j = stF F ca sz i then (i : Int) else nbR F ca sz i j
def xWh (F : Nat → Nat) (ca sz : Nat) : Nat → Nat → Option Nat
  | 0, _ => none
  | c + 1, q => if q < sz then (if 0 < spR F ca sz q then xWh F ca sz c (q + (spR F ca sz q).toNat) else some (ca + q)) else none
def x15 (F : Nat → Nat) (ca sz : Nat) : Option Nat := xWh F ca sz (sz + 1) 0
/-- N instructions fill the code -/
def isWh (F : Nat → Nat) (ca sz N : Nat) : Prop := stF F ca sz N = sz ∧ ∀ i, i < N → stF F ca sz i < sz ∧ 0 < spR F ca sz (stF F ca sz i)
/-- what the model keeps of the instructions of the code that it has taken -/
def whl (F : Nat → Nat) (ca sz N : Nat) (σ : mS) : Prop := σ.1 32 = zI (ca : Int) ∧ σ.1 33 = zI (sz : Int) ∧ σ.1 35 = zI (N : Int) ∧ (∀ j, j < sz → σ.2.1 34 j = zI (nbR F ca sz N j)) ∧ σ.2.1 34 sz = zI (N : Int)
theorem spR_in {F : Nat → Nat} {ca sz k : Nat} (h : 0 < spR F ca sz k) : (k : Int) + spR F ca sz k ≤ sz := by
  unfold spR at h ⊢
  split
  · rename_i h1; rw [if_pos h1] at h; exact absurd h (by decide)
  · rename_i h1
    rw [if_neg h1] at h
    split
    · rename_i h2; rw [if_pos h2] at h; exact absurd h (by decide)
    · omega
theorem spR_rg {F : Nat → Nat} {ca sz k : Nat} (hz : sz ≤ 1200) (hk : k ≤ 1200) : -1 ≤ spR F ca sz k ∧ spR F ca sz k ≤ 3000 := by
  have := spX_rg (F := F) (ca := ca) hz hk
  unfold spR
  (repeat' split) <;> omega
theorem nbR_rg (F : Nat → Nat) (ca sz : Nat) : ∀ i j, -1 ≤ nbR F ca sz i j ∧ nbR F ca sz i j < i := by
  intro i
  induction i with
  | zero => intro j; exact ⟨by show (-1 : Int) ≤ -1; omega, by show (-1 : Int) < 0; omega⟩
  | succ i ih =>
    intro j
    have := ih j
    unfold nbR
    split <;> omega
theorem xWh_s {F : Nat → Nat} {ca sz c q : Nat} (h : q < sz) (h2 : 0 < spR F ca sz q) : xWh F ca sz (c + 1) q = xWh F ca sz c (q + (spR F ca sz q).toNat) := by
  conv => lhs; unfold xWh
  rw [if_pos h, if_pos h2]
theorem xWh_f {F : Nat → Nat} {ca sz c q : Nat} (h : q < sz) (h2 : ¬ 0 < spR F ca sz q) : xWh F ca sz (c + 1) q = some (ca + q) := by
  unfold xWh
  rw [if_pos h, if_neg h2]
theorem xWh_n {F : Nat → Nat} {ca sz c q : Nat} (h : ¬ q < sz) : xWh F ca sz c q = none := by
  cases c with
  | zero => rfl
  | succ c => unfold xWh; rw [if_neg h]
theorem stF_le {F : Nat → Nat} {ca sz N : Nat} (h : ∀ i, i < N → stF F ca sz i < sz ∧ 0 < spR F ca sz (stF F ca sz i)) : ∀ i, i ≤ N → i ≤ stF F ca sz i := by
  intro i
  induction i with
  | zero => intro _; exact Nat.zero_le _
  | succ i ih =>
    intro hi
    have h1 := ih (by omega)
    have h2 := (h i (by omega)).2
    show i + 1 ≤ stF F ca sz i + (spR F ca sz (stF F ca sz i)).toNat
    omega
theorem nbR_p {F : Nat → Nat} {ca sz i : Nat} : nbR F ca sz (i + 1) (stF F ca sz i) = (i : Int) := by
  conv => lhs; unfold nbR
  rw [if_pos rfl]
theorem nbR_n {F : Nat → Nat} {ca sz i j : Nat} (h : j ≠ stF F ca sz i) : nbR F ca sz (i + 1) j = nbR F ca sz i j := by
  conv => lhs; unfold nbR
  rw [if_neg h]
theorem stF_s {F : Nat → Nat} {ca sz i : Nat} : stF F ca sz (i + 1) = stF F ca sz i + (spR F ca sz (stF F ca sz i)).toNat := rfl

set_option maxHeartbeats 4000000 in
set_option maxRecDepth 20000 in
theorem c_X12_wholes (l : Launch) (Z : zT) {H : Heap} {o : Nat} {ad : Nat → Nat} {σ : mS} (hM : isM Z H o ad σ) {F : Nat → Nat} {n : Nat} (hB : mSrc σ F n) {ca sz k : Nat} (hk : k < 24) (h27 : σ.2.1 27 k = zI (ca : Int)) (h28 : σ.2.1 28 k = zI (sz : Int)) (hcs : ca + sz ≤ n) (hsz : sz ≤ 1200) : zX l Z yX12_wholes cX12_wholes 4 none (rmk 7) [.ref o, zN k] H (mA o ad) 0 0 (fun v H' => v = none ∧ x15 F ca sz = none ∧ ∃ (σ' : mS) (N : Nat), isM Z H' o ad σ' ∧ chg [32, 33, 35] [34] σ σ' ∧ isWh F ca sz N ∧ whl F ca sz N σ') (fun H' => ∃ w9 : Nat, x15 F ca sz = some w9 ∧ mBrk Z o ad [4, 5, 32, 33, 35] [34] σ 15 w9 H') := by
  have hB0 := hB
  have hn := hB.2.2.2
  refine zX.introV (own := RX12) ⟨by decide, rfl⟩ (Nat.le_of_ble_eq_true rfl) ?_
  intro p e s m args below meth c Q ls hH C hl hth hret
  have hS : va_S (mA o ad) s.heap H [] := by rw [hH]; exact va_S.rf
  have hl : lv_has ls 4 [(0, .ref o), (1, zN k)] := hl
  refine lv_aload_n C.1 C.2.1 dX12_wholes_0 rfl (lv_at hl 0 rfl) ?_
  refine lv_iload_n C.1 C.2.1 dX12_wholes_1 rfl (lv_at hl 1 rfl) ?_
  refine z_callV C (As := [zN k]) (rest := []) (c_X12_take l Z hM hk h27 h28) hM.1 rfl ⟨⟨zw_32_0, zw_1_5, zw_31_21⟩, zd_X12_take⟩ zw_31_22 zw_31_23 ⟨Nat.le_of_ble_eq_true rfl, Nat.le_of_ble_eq_true rfl⟩ ⟨rfl, rfl⟩ rfl hl.1 rfl (Nat.le_of_ble_eq_true rfl) dX12_wholes_2 ⟨Nat.zero_le _, Nat.zero_le _⟩ hS (fun _ h => h) (fun v H locs hp hS _ _ => ?_)
  obtain ⟨rfl, hM⟩ := hp
  refine lv_iconst (v := zI 0) C.1 C.2.1 dX12_wholes_5 (by decide) ?_
  refine lv_istore_n (lv' := [(2, zN 0), (0, .ref o), (1, zN k)]) C.1 C.2.1 dX12_wholes_6 rfl hl (by decide) rfl (fun ls hl => ?_)
  have loopA : ∀ (fu : Nat) (j : Nat) (σ1 : mS) (H : Heap) (ls : Array Slot) (locs : List Loc), va_S (mA o ad) s.heap H locs → isM Z H o ad σ1 → (j + fu = sz + 2 ∧ j ≤ sz + 1) → (chg [32, 33, 35] [34] σ σ1) → (σ1.1 32 = zI (ca : Int)) → (σ1.1 33 = zI (sz : Int)) → (∀ i, i < j → σ1.2.1 34 i = zI (-1)) → lv_has ls 4 [(2, zN j), (0, .ref o), (1, zN k)] → W p l e (rmk 7) s m args below meth c H locs 0 0 Q (F0 m 7 ls []) := by
    intro fu
    induction fu with
    | zero =>
      intro j σ1 H ls locs hS hM hj hc h32 h33 ha hl
      omega
    | succ fu ih_loopA =>
      intro j σ1 H ls locs hS hM hj hc h32 h33 ha hl
      refine lv_iload_n C.1 C.2.1 dX12_wholes_7 rfl (lv_at hl 0 rfl) ?_
      refine lv_aload_n C.1 C.2.1 dX12_wholes_8 rfl (lv_at hl 1 rfl) ?_
      refine m_get C hM 33 (v := .int (σ1.1 33)) (by decide) zw_31_18 rfl rfl dX12_wholes_9 ?_
      refine z_re (y := zI ((sz : Nat) : Int)) h33 ?_
      refine y_icmp_gt (tgt := 28) C (a := ((j : Nat) : Int)) (b := ((sz : Nat) : Int)) dX12_wholes_12 (by decide) (by omega) (fun h12 => ?_) (fun h12 => ?_)
      · refine lv_aload_n C.1 C.2.1 dX12_wholes_28 rfl (lv_at hl 1 rfl) ?_
        refine lv_iconst (v := zI 0) C.1 C.2.1 dX12_wholes_29 (by decide) ?_
        refine m_put C hM 35 (sx σ1 35 (zI 0)) rfl rfl (by decide) zw_31_19 rfl rfl rfl rfl hS dX12_wholes_30 (fun H locs hM hS => ?_)
        refine lv_iconst (v := zI 0) C.1 C.2.1 dX12_wholes_33 (by decide) ?_
        refine lv_istore_n (lv' := [(2, zN 0), (0, .ref o), (1, zN k)]) C.1 C.2.1 dX12_wholes_34 rfl hl (by decide) rfl (fun ls hl => ?_)
        have loopB : ∀ (fv : Nat) (i : Nat) (σ2 : mS) (H : Heap) (ls : Array Slot) (locs : List Loc), va_S (mA o ad) s.heap H locs → isM Z H o ad σ2 → (sz + 1 ≤ stF F ca sz i + fv ∧ stF F ca sz i ≤ sz) → (chg [32, 33, 35] [34] σ σ2) → (σ2.1 32 = zI (ca : Int)) → (σ2.1 33 = zI (sz : Int)) → (σ2.1 35 = zI (i : Int)) → (∀ j, j ≤ sz → σ2.2.1 34 j = zI (nbR F ca sz i j)) → (∀ j, j < i → stF F ca sz j < sz ∧ 0 < spR F ca sz (stF F ca sz j)) → (xWh F ca sz (sz + 1 - i) (stF F ca sz i) = x15 F ca sz) → lv_has ls 4 [(2, zN (stF F ca sz i)), (0, .ref o), (1, zN k)] → W p l e (rmk 7) s m args below meth c H locs 0 0 Q (F0 m 35 ls []) := by
          intro fv
          induction fv with
          | zero =>
            intro i σ2 H ls locs hS hM hi hc h32 h33 h35 hna hw hx hl
            omega
          | succ fv ih_loopB =>
            intro i σ2 H ls locs hS hM hi hc h32 h33 h35 hna hw hx hl
            have hB := hB0.chg hc (by decide) (by decide)
            have hil := stF_le hw i (Nat.le_refl _)
            refine lv_iload_n C.1 C.2.1 dX12_wholes_35 rfl (lv_at hl 0 rfl) ?_
            refine lv_aload_n C.1 C.2.1 dX12_wholes_36 rfl (lv_at hl 1 rfl) ?_
            refine m_get C hM 33 (v := .int (σ2.1 33)) (by decide) zw_31_18 rfl rfl dX12_wholes_37 ?_
            refine z_re (y := zI ((sz : Nat) : Int)) h33 ?_
            refine y_icmp_ge (tgt := 97) C (a := ((stF F ca sz i : Nat) : Int)) (b := ((sz : Nat) : Int)) dX12_wholes_40 (by decide) (by omega) (fun h40 => ?_) (fun h40 => ?_)
            · refine lv_aload_n C.1 C.2.1 dX12_wholes_97 rfl (lv_at hl 1 rfl) ?_
              refine m_get C hM 34 (v := .ref (ad 34)) (by decide) zw_5_13 rfl rfl dX12_wholes_98 ?_
              refine lv_aload_n C.1 C.2.1 dX12_wholes_101 rfl (lv_at hl 1 rfl) ?_
              refine m_get C hM 33 (v := .int (σ2.1 33)) (by decide) zw_31_18 rfl rfl dX12_wholes_102 ?_
              refine z_re (y := zI ((sz : Nat) : Int)) h33 ?_
              refine lv_aload_n C.1 C.2.1 dX12_wholes_105 rfl (lv_at hl 1 rfl) ?_
              refine m_get C hM 35 (v := .int (σ2.1 35)) (by decide) zw_31_19 rfl rfl dX12_wholes_106 ?_
              refine z_re (y := zI ((i : Nat) : Int)) h35 ?_
              refine m_ast C hM 34 (by decide) sz (t := ((sz : Nat) : Int)) rfl (by show _ < 1201; omega) hS dX12_wholes_109 (fun H locs hM hS => ?_)
              exact hret _ _ _ _ hS ⟨rfl, (by rw [← hx]; exact xWh_n (by omega)), _, i, hM, (chg_sf (by decide) hc), ⟨by omega, hw⟩, h32, h33, h35, (fun j h => (upd_ne (by omega)).trans (hna j (by omega))), upd_2⟩ dX12_wholes_110
            · have hu : sz + 1 - i = (sz + 1 - i - 1) + 1 := by omega
              refine lv_aload_n C.1 C.2.1 dX12_wholes_43 rfl (lv_at hl 1 rfl) ?_
              refine lv_iload_n C.1 C.2.1 dX12_wholes_44 rfl (lv_at hl 0 rfl) ?_
              refine z_readV C (As := [zN (stF F ca sz i)]) (rest := []) (c_X12_span l Z hM hB h32 h33 hcs hsz (stF F ca sz i) rfl (by omega)) hM.1 rfl ⟨⟨zw_32_4, zw_1_5, zw_32_1⟩, zd_X12_span⟩ zw_32_2 zw_32_3 ⟨Nat.le_of_ble_eq_true rfl, Nat.le_of_ble_eq_true rfl⟩ ⟨rfl, rfl⟩ rfl hl.1 rfl (Nat.le_of_ble_eq_true rfl) dX12_wholes_45 ⟨Nat.zero_le _, Nat.zero_le _⟩ hS (fun locs hS => ?_)
              have hsr := spR_rg (F := F) (ca := ca) hsz (show stF F ca sz i ≤ 1200 by omega)
              have hsi := spR_in (F := F) (ca := ca) (sz := sz) (k := stF F ca sz i)
              refine lv_istore_n (lv' := [(3, zV (spR F ca sz (stF F ca sz i))), (2, zN (stF F ca sz i)), (0, .ref o), (1, zN k)]) C.1 C.2.1 dX12_wholes_48 rfl hl (by decide) rfl (fun ls hl => ?_)
              refine lv_aload_n C.1 C.2.1 dX12_wholes_49 rfl (lv_at hl 2 rfl) ?_
              refine lv_iload_n C.1 C.2.1 dX12_wholes_50 rfl (lv_at hl 0 rfl) ?_
              refine y_if_le (tgt := 58) C (a := spR F ca sz (stF F ca sz i)) dX12_wholes_51 (by decide) (by omega) (fun h51 => ?_) (fun h51 => ?_)
              · refine lv_iconst (v := zI 0) C.1 C.2.1 dX12_wholes_58 (by decide) ?_
                refine lv_bipush (v := zI 15) C.1 C.2.1 dX12_wholes_59 (by decide) ?_
                refine lv_aload_n C.1 C.2.1 dX12_wholes_61 rfl (lv_at hl 2 rfl) ?_
                refine m_get C hM 32 (v := .int (σ2.1 32)) (by decide) zw_31_20 rfl rfl dX12_wholes_62 ?_
                refine z_re (y := zI ((ca : Nat) : Int)) h32 ?_
                refine lv_iload_n C.1 C.2.1 dX12_wholes_65 rfl (lv_at hl 1 rfl) ?_
                refine y_iaddN C (a := ca) (b := stF F ca sz i) dX12_wholes_66 ?_
                refine z_callVX C (As := [zV (bI false), zN 15, zN (ca + (stF F ca sz i))]) (rest := []) (c_X12_must l Z hM false (zI 15) (zI ((ca + (stF F ca sz i) : Nat) : Int))) hM.1 rfl ⟨⟨zw_26_16, zw_1_5, zw_26_13⟩, zd_X12_must⟩ zw_26_14 zw_26_15 ⟨Nat.le_of_ble_eq_true rfl, Nat.le_of_ble_eq_true rfl⟩ ⟨rfl, rfl⟩ rfl hl.1 rfl (Nat.le_of_ble_eq_true rfl) dX12_wholes_67 ⟨Nat.zero_le _, Nat.zero_le _⟩ hS (fun _ h => h) (fun H9 locs9 q9 ce9 hp9 hS9 _ _ g1 g2 g3 => ?_) (fun v H locs hp hS _ _ => ?_)
                · exact hth _ _ _ _ _ _ _ hS9 (⟨(ca + stF F ca sz i), (by rw [← hx, hu]; exact xWh_f (by omega) (by omega)), ⟨_, hp9.2, rfl, rfl, (chg_sx (by decide) (chg_sx (by decide) (hc.mono (by decide) (by decide))))⟩⟩) g1 g2 g3
                exact absurd hp.1 (by decide)
              · refine lv_iconst (v := zI 1) C.1 C.2.1 dX12_wholes_54 (by decide) ?_
                refine lv_goto (tgt := 59) C.1 C.2.1 dX12_wholes_55 (by decide) ?_
                refine lv_bipush (v := zI 15) C.1 C.2.1 dX12_wholes_59 (by decide) ?_
                refine lv_aload_n C.1 C.2.1 dX12_wholes_61 rfl (lv_at hl 2 rfl) ?_
                refine m_get C hM 32 (v := .int (σ2.1 32)) (by decide) zw_31_20 rfl rfl dX12_wholes_62 ?_
                refine z_re (y := zI ((ca : Nat) : Int)) h32 ?_
                refine lv_iload_n C.1 C.2.1 dX12_wholes_65 rfl (lv_at hl 1 rfl) ?_
                refine y_iaddN C (a := ca) (b := stF F ca sz i) dX12_wholes_66 ?_
                refine z_callVX C (As := [zV (bI true), zN 15, zN (ca + (stF F ca sz i))]) (rest := []) (c_X12_must l Z hM true (zI 15) (zI ((ca + (stF F ca sz i) : Nat) : Int))) hM.1 rfl ⟨⟨zw_26_16, zw_1_5, zw_26_13⟩, zd_X12_must⟩ zw_26_14 zw_26_15 ⟨Nat.le_of_ble_eq_true rfl, Nat.le_of_ble_eq_true rfl⟩ ⟨rfl, rfl⟩ rfl hl.1 rfl (Nat.le_of_ble_eq_true rfl) dX12_wholes_67 ⟨Nat.zero_le _, Nat.zero_le _⟩ hS (fun _ h => h) (fun H9 locs9 q9 ce9 hp9 hS9 _ _ g1 g2 g3 => ?_) (fun v H locs hp hS _ _ => ?_)
                · exact absurd hp9.1 (by decide)
                obtain ⟨-, rfl, hM⟩ := hp
                have hok : 0 < spR F ca sz (stF F ca sz i) := by omega
                refine lv_aload_n C.1 C.2.1 dX12_wholes_70 rfl (lv_at hl 2 rfl) ?_
                refine m_get C hM 34 (v := .ref (ad 34)) (by decide) zw_5_13 rfl rfl dX12_wholes_71 ?_
                refine lv_iload_n C.1 C.2.1 dX12_wholes_74 rfl (lv_at hl 1 rfl) ?_
                refine lv_aload_n C.1 C.2.1 dX12_wholes_75 rfl (lv_at hl 2 rfl) ?_
                refine m_get C hM 35 (v := .int (σ2.1 35)) (by decide) zw_31_19 rfl rfl dX12_wholes_76 ?_
                refine z_re (y := zI ((i : Nat) : Int)) h35 ?_
                refine m_ast C hM 34 (by decide) (stF F ca sz i) (t := ((stF F ca sz i : Nat) : Int)) rfl (by show _ < 1201; omega) hS dX12_wholes_79 (fun H locs hM hS => ?_)
                refine lv_aload_n C.1 C.2.1 dX12_wholes_80 rfl (lv_at hl 2 rfl) ?_
                refine lv_dup C.1 C.2.1 dX12_wholes_81 rfl ?_
                refine m_get C hM 35 (v := .int ((sf σ2 34 (upd (σ2.2.1 34) (stF F ca sz i) (zI ((i : Nat) : Int)))).1 35)) (by decide) zw_31_19 rfl rfl dX12_wholes_82 ?_
                refine z_re (y := zI ((i : Nat) : Int)) h35 ?_
                refine lv_iconst (v := zI 1) C.1 C.2.1 dX12_wholes_85 (by decide) ?_
                refine y_iaddN C (a := i) (b := 1) dX12_wholes_86 ?_
                refine m_put C hM 35 (sx (sf σ2 34 (upd (σ2.2.1 34) (stF F ca sz i) (zI ((i : Nat) : Int)))) 35 (zI ((i + 1 : Nat) : Int))) rfl rfl (by decide) zw_31_19 rfl rfl rfl rfl hS dX12_wholes_87 (fun H locs hM hS => ?_)
                refine lv_iload_n C.1 C.2.1 dX12_wholes_90 rfl (lv_at hl 1 rfl) ?_
                refine lv_iload_n C.1 C.2.1 dX12_wholes_91 rfl (lv_at hl 0 rfl) ?_
                refine y_iadd C (a := ((stF F ca sz i : Nat) : Int)) (b := spR F ca sz (stF F ca sz i)) dX12_wholes_92 ?_
                refine lv_istore_n (lv' := [(2, zV (((stF F ca sz i : Nat) : Int) + (spR F ca sz (stF F ca sz i)))), (3, zV (spR F ca sz (stF F ca sz i))), (0, .ref o), (1, zN k)]) C.1 C.2.1 dX12_wholes_93 rfl hl (by decide) rfl (fun ls hl => ?_)
                have hl : lv_has ls 4 [(2, zV ((stF F ca sz (i + 1) : Nat) : Int)), (3, zV (spR F ca sz (stF F ca sz i))), (0, .ref o), (1, zN k)] := by rw [show (((stF F ca sz (i + 1) : Nat) : Int)) = ((stF F ca sz i : Nat) : Int) + (spR F ca sz (stF F ca sz i)) from (by rw [stF_s]; omega)]; exact hl
                refine lv_goto (tgt := 35) C.1 C.2.1 dX12_wholes_94 (by decide) ?_
                exact ih_loopB (i + 1) _ _ ls _ hS hM (by rw [stF_s]; omega) (chg_sx (by decide) (chg_sf (by decide) hc)) h32 h33 (zI_c (by omega)) (fun j h => (Classical.em (j = stF F ca sz i)).elim (fun q => by rw [q, nbR_p]; exact upd_2) (fun q => by rw [nbR_n q]; exact (upd_ne q).trans (hna j h))) (lt_s hw ⟨by omega, hok⟩) (by rw [← hx, hu, xWh_s (by omega) hok, ← stF_s, show sz + 1 - (i + 1) = sz + 1 - i - 1 by omega]) (lv_sub hl [0, 2, 3] rfl)
        exact loopB (sz + 1) 0 _ _ ls _ hS hM (by show sz + 1 ≤ 0 + (sz + 1) ∧ 0 ≤ sz; omega) (chg_sx (by decide) hc) h32 h33 rfl (fun i h => ha i (by omega)) (fun i h => absurd h (Nat.not_lt_zero i)) rfl hl
      · refine lv_aload_n C.1 C.2.1 dX12_wholes_15 rfl (lv_at hl 1 rfl) ?_
        refine m_get C hM 34 (v := .ref (ad 34)) (by decide) zw_5_13 rfl rfl dX12_wholes_16 ?_
        refine lv_iload_n C.1 C.2.1 dX12_wholes_19 rfl (lv_at hl 0 rfl) ?_
        refine lv_iconst (v := zI (-1)) C.1 C.2.1 dX12_wholes_20 (by decide) ?_
        refine m_ast C hM 34 (by decide) j (t := ((j : Nat) : Int)) rfl (by show _ < 1201; omega) hS dX12_wholes_21 (fun H locs hM hS => ?_)
        refine lv_iinc (v := zI ((j + 1 : Nat) : Int)) (lv' := [(2, zN (j + 1)), (0, .ref o), (1, zN k)]) C.1 C.2.1 dX12_wholes_22 hl (k := 0) rfl (zI_add _ _) (by decide) rfl (fun ls hl => ?_)
        refine lv_goto (tgt := 7) C.1 C.2.1 dX12_wholes_25 (by decide) ?_
        exact ih_loopA (j + 1) _ _ ls _ hS hM (by omega) (chg_sf (by decide) hc) h32 h33 (fun i h => (Classical.em (i = j)).elim (fun q => by rw [q]; exact upd_2) (fun q => (upd_ne q).trans (ha i (by omega)))) hl
  exact loopA (sz + 2) 0 _ _ ls _ hS hM (by omega) (chg_sx (by decide) (chg_sx (by decide) chg.rf)) rfl rfl (fun i h => absurd h (Nat.not_lt_zero i)) hl
