/-! the model: attributesOf, members -/
theorem xAtt_s {F : Nat → Nat} {n c q : Nat} (h : q + 6 ≤ n) (h2 : q + 6 + U4 F (q + 2) ≤ n) : xAtt F n (c + 1) q = xAtt F n c (q + 6 + U4 F (q + 2)) := by
  show (if q + 6 ≤ n then (if q + 6 + U4 F (q + 2) ≤ n then xAtt F n c (q + 6 + U4 F (q + 2)) else .error (2, n)) else .error (2, n)) = _
  rw [if_pos h, if_pos h2]
theorem xAtt_2 {F : Nat → Nat} {n c q : Nat} (h : ¬ (q + 6 ≤ n ∧ q + 6 + U4 F (q + 2) ≤ n)) : xAtt F n (c + 1) q = .error (2, n) := by
  show (if q + 6 ≤ n then (if q + 6 + U4 F (q + 2) ≤ n then xAtt F n c (q + 6 + U4 F (q + 2)) else .error (2, n)) else .error (2, n)) = _
  by_cases h1 : q + 6 ≤ n
  · rw [if_pos h1, if_neg (fun z => h ⟨h1, z⟩)]
  · rw [if_neg h1]
theorem atp_s (F : Nat → Nat) (a i : Nat) : atp F a (i + 1) = atp F a i + 6 + U4 F (atp F a i + 2) := rfl
theorem abase_up {F : Nat → Nat} {mt : Nat → Nat} {k p : Nat} : ∀ i, i ≤ k → abase F (va_up mt k p) i = abase F mt i := by
  intro i
  induction i with
  | zero => intro _; rfl
  | succ i ih =>
    intro h
    show abase F (va_up mt k p) i + U2 F (va_up mt k p i + 6) = abase F mt i + U2 F (mt i + 6)
    rw [ih (by omega), va_up_ne _ _ (by omega)]
theorem abase_le {F : Nat → Nat} {mt : Nat → Nat} {i : Nat} : ∀ k, i ≤ k → abase F mt i ≤ abase F mt k := by
  intro k
  induction k with
  | zero => intro h; rw [show i = 0 by omega]; exact Nat.le_refl _
  | succ k ih =>
    intro h
    rcases Nat.lt_or_ge i (k + 1) with h2 | h2
    · have := ih (by omega)
      show abase F mt i ≤ abase F mt k + _
      omega
    · rw [show i = k + 1 by omega]; exact Nat.le_refl _
theorem abase_lt {F : Nat → Nat} {mt : Nat → Nat} {i j k : Nat} (h : i < k) (hj : j < U2 F (mt i + 6)) : abase F mt i + j < abase F mt k := by
  have := abase_le (F := F) (mt := mt) (i := i + 1) k (by omega)
  have e : abase F mt (i + 1) = abase F mt i + U2 F (mt i + 6) := rfl
  omega
/-- an attribute list lies in the file -/
def atIn (F : Nat → Nat) (n a j : Nat) : Prop := atp F a j + 6 ≤ n ∧ atp F a j + 6 + U4 F (atp F a j + 2) ≤ n
/-- the model's members and their attributes: mc members, at mt -/
def mAtts (σ : mS) (F : Nat → Nat) (n : Nat) (mt : Nat → Nat) (mc : Nat) : Prop := σ.1 21 = zI (abase F mt mc : Int) ∧ ∀ i, i < mc → σ.2.1 20 i = zI (mt i : Int) ∧ mt i + 8 ≤ n ∧ ∀ j, j < U2 F (mt i + 6) → σ.2.1 22 (abase F mt i + j) = zI (atp F (mt i + 6) j : Int) ∧ σ.2.1 23 (abase F mt i + j) = zI (i : Int) ∧ atIn F n (mt i + 6) j
theorem mAtts_0 {σ : mS} {F : Nat → Nat} {n : Nat} {mt : Nat → Nat} (h : σ.1 21 = zI 0) : mAtts σ F n mt 0 := ⟨h, fun i hi => absurd hi (Nat.not_lt_zero i)⟩
theorem mAtts_s {σ σ2 : mS} {F : Nat → Nat} {n : Nat} {mt : Nat → Nat} {k p : Nat} (h : mAtts σ F n mt k) (h21 : σ2.1 21 = zI ((abase F mt k + U2 F (p + 6) : Nat) : Int)) (h20 : ∀ i, i < k → σ2.2.1 20 i = σ.2.1 20 i) (h20k : σ2.2.1 20 k = zI (p : Int)) (hp : p + 8 ≤ n)
    (hold : ∀ a, a < abase F mt k → σ2.2.1 22 a = σ.2.1 22 a ∧ σ2.2.1 23 a = σ.2.1 23 a) (hnew : ∀ j, j < U2 F (p + 6) → σ2.2.1 22 (abase F mt k + j) = zI (atp F (p + 6) j : Int) ∧ σ2.2.1 23 (abase F mt k + j) = zI (k : Int) ∧ atIn F n (p + 6) j) : mAtts σ2 F n (va_up mt k p) (k + 1) := by
  refine ⟨?_, fun i hi => ?_⟩
  · show σ2.1 21 = zI ((abase F (va_up mt k p) k + U2 F (va_up mt k p k + 6) : Nat) : Int)
    rw [abase_up k (Nat.le_refl _), va_up_self]
    exact h21
  · rw [abase_up i (by omega)]
    by_cases e : i = k
    · subst e
      rw [va_up_self]
      exact ⟨h20k, hp, hnew⟩
    · rw [va_up_ne _ _ e]
      obtain ⟨g1, g2, g3⟩ := h.2 i (by omega)
      refine ⟨(h20 i (by omega)).trans g1, g2, fun j hj => ?_⟩
      obtain ⟨g4, g5, g6⟩ := g3 j hj
      obtain ⟨g7, g8⟩ := hold _ (abase_lt (show i < k by omega) hj)
      exact ⟨g7.trans g4, g8.trans g5, g6⟩
theorem mAtts_keep {σ σ2 : mS} {F : Nat → Nat} {n : Nat} {mt : Nat → Nat} {k : Nat} (h : mAtts σ F n mt k) (h21 : σ2.1 21 = σ.1 21) (h20 : σ2.2.1 20 = σ.2.1 20) (h22 : σ2.2.1 22 = σ.2.1 22) (h23 : σ2.2.1 23 = σ.2.1 23) : mAtts σ2 F n mt k := by
  unfold mAtts at *
  rw [h21, h20, h22, h23]
  exact h
theorem upd_2 {f : Nat → Int32} {k : Nat} {x : Int32} : upd f k x k = x := pk_us

set_option maxHeartbeats 4000000 in
set_option maxRecDepth 20000 in
theorem c_X12_attributesOf (l : Launch) (Z : zT) {H : Heap} {o : Nat} {ad : Nat → Nat} {σ : mS} (hM : isM Z H o ad σ) {F : Nat → Nat} {n : Nat} (hB : mSrc σ F n) {q na : Nat} (t : Int) (h9 : σ.1 9 = zI (q : Int)) (h8 : σ.1 8 = zI (n : Int)) (hq : q ≤ n) (h21 : σ.1 21 = zI (na : Int)) (h6 : 6 * na ≤ q) : zX l Z yX12_attributesOf cX12_attributesOf 6 none (rmk 4) [.ref o, zV t] H (mA o ad) 0 0 (fun v H' => v = none ∧ ∃ (σ' : mS) (q' : Nat), xAtts F n q = .ok q' ∧ q' ≤ n ∧ q + 2 ≤ q' ∧ isM Z H' o ad σ' ∧ σ'.1 9 = zI (q' : Int) ∧ σ'.1 21 = zI ((na + U2 F q : Nat) : Int) ∧ 6 * (na + U2 F q) ≤ q' ∧ chg [9, 21] [22, 23] σ σ' ∧ (∀ a, a < na → σ'.2.1 22 a = σ.2.1 22 a ∧ σ'.2.1 23 a = σ.2.1 23 a) ∧ (∀ j, j < U2 F q → σ'.2.1 22 (na + j) = zI (atp F q j : Int) ∧ σ'.2.1 23 (na + j) = zI t ∧ atIn F n q j)) (fun H' => ∃ r w : Nat, xAtts F n q = .error (r, w) ∧ mBrk Z o ad LX LF σ r w H') := by
  have hB0 := hB
  have hn := hB.2.2.2
  refine zX.introV (own := RX12) ⟨by decide, rfl⟩ (Nat.le_of_ble_eq_true rfl) ?_
  intro p e s m args below meth c Q ls hH C hl hth hret
  have hS : va_S (mA o ad) s.heap H [] := by rw [hH]; exact va_S.rf
  have hl : lv_has ls 6 [(0, .ref o), (1, zV t)] := hl
  refine lv_aload_n C.1 C.2.1 dX12_attributesOf_0 rfl (lv_at hl 0 rfl) ?_
  refine lv_aload_n C.1 C.2.1 dX12_attributesOf_1 rfl (lv_at hl 0 rfl) ?_
  refine lv_ldc2 (v := zL 2) C.1 C.2.1 C.2.2.2.1 (C.2.2.2.2.1 _ zw_26_8) dX12_attributesOf_2 ?_
  refine z_callVX C (As := [.long (zL 2)]) (rest := [.ref o]) (c_X12_over l Z (n := n) (q := q) (b := 2) hM (h9) (h8) (by omega) (by omega) (by omega)) hM.1 rfl ⟨⟨zw_27_7, zw_1_5, zw_27_4⟩, zd_X12_over⟩ zw_27_5 zw_27_6 ⟨Nat.le_of_ble_eq_true rfl, Nat.le_of_ble_eq_true rfl⟩ ⟨rfl, rfl⟩ rfl hl.1 rfl (Nat.le_of_ble_eq_true rfl) dX12_attributesOf_5 ⟨Nat.zero_le _, Nat.zero_le _⟩ hS (fun _ h => h) (fun H9 locs9 q9 ce9 hp9 hS9 _ _ g1 g2 g3 => ?_) (fun v H locs hp hS _ _ => ?_)
  · exact hth _ _ _ _ _ _ _ hS9 (⟨2, n, (by unfold xAtts; rw [if_neg (by omega)]), ⟨_, hp9.2, rfl, rfl, (chg_sx (by decide) (chg_sx (by decide) chg.rf))⟩⟩) g1 g2 g3
  obtain ⟨ho5, rfl, hM⟩ := hp
  refine z_readV C (As := [zN q]) (rest := []) (c_X12_two l Z hM hB q rfl (by omega)) hM.1 rfl ⟨⟨zw_27_11, zw_1_5, zw_27_8⟩, zd_X12_two⟩ zw_27_9 zw_27_10 ⟨Nat.le_of_ble_eq_true rfl, Nat.le_of_ble_eq_true rfl⟩ ⟨rfl, rfl⟩ rfl hl.1 rfl (Nat.le_of_ble_eq_true rfl) dX12_attributesOf_8 ⟨Nat.zero_le _, Nat.zero_le _⟩ hS (fun locs hS => ?_)
  have := U2_lt hB.1 q
  refine lv_istore_n (lv' := [(2, zN (U2 F q)), (0, .ref o), (1, zV t)]) C.1 C.2.1 dX12_attributesOf_11 rfl hl (by decide) rfl (fun ls hl => ?_)
  refine lv_iconst (v := zI 0) C.1 C.2.1 dX12_attributesOf_12 (by decide) ?_
  refine lv_istore_n (lv' := [(3, zN 0), (2, zN (U2 F q)), (0, .ref o), (1, zV t)]) C.1 C.2.1 dX12_attributesOf_13 rfl hl (by decide) rfl (fun ls hl => ?_)
  have loop : ∀ (fu : Nat) (i : Nat) (σ1 : mS) (H : Heap) (ls : Array Slot) (locs : List Loc), va_S (mA o ad) s.heap H locs → isM Z H o ad σ1 → (i + fu = U2 F q + 1 ∧ i ≤ U2 F q) → (σ1.1 9 = zI (atp F q i : Int)) → (σ1.1 21 = zI ((na + i : Nat) : Int)) → (chg [9, 21] [22, 23] σ σ1) → (xAtt F n (U2 F q - i) (atp F q i) = xAtts F n q) → (atp F q i ≤ n) → (6 * (na + i) ≤ atp F q i) → (q + 2 ≤ atp F q i) → (∀ a, a < na → σ1.2.1 22 a = σ.2.1 22 a ∧ σ1.2.1 23 a = σ.2.1 23 a) → (∀ j, j < i → σ1.2.1 22 (na + j) = zI (atp F q j : Int) ∧ σ1.2.1 23 (na + j) = zI t ∧ atIn F n q j) → lv_has ls 6 [(3, zN i), (2, zN (U2 F q)), (0, .ref o), (1, zV t)] → W p l e (rmk 4) s m args below meth c H locs 0 0 Q (F0 m 14 ls []) := by
    intro fu
    induction fu with
    | zero =>
      intro i σ1 H ls locs hS hM hi h9 h21 hc hx hin h6 hlow hold hnew hl
      omega
    | succ fu ih =>
      intro i σ1 H ls locs hS hM hi h9 h21 hc hx hin h6 hlow hold hnew hl
      have hB := hB0.chg hc (by decide) (by decide)
      have h8 : σ1.1 8 = zI (n : Int) := (hc.1 8 (by decide)).trans h8
      have hu4 := U4_lt hB.1 (atp F q i + 2)
      refine lv_iload_n C.1 C.2.1 dX12_attributesOf_14 rfl (lv_at hl 0 rfl) ?_
      refine lv_iload_n C.1 C.2.1 dX12_attributesOf_15 rfl (lv_at hl 1 rfl) ?_
      refine y_icmp_ge (tgt := 90) C (a := ((i : Nat) : Int)) (b := ((U2 F q : Nat) : Int)) dX12_attributesOf_16 (by decide) (by omega) (fun h16 => ?_) (fun h16 => ?_)
      · exact hret _ _ _ _ hS ⟨rfl, σ1, atp F q i, (by rw [← hx, show U2 F q - i = 0 by omega]; rfl), hin, hlow, hM, h9, by rw [h21, show i = U2 F q by omega], by omega, hc, hold, fun j h => hnew j (by omega)⟩ dX12_attributesOf_90
      · have hu : U2 F q - i = (U2 F q - i - 1) + 1 := by omega
        refine lv_aload_n C.1 C.2.1 dX12_attributesOf_19 rfl (lv_at hl 2 rfl) ?_
        refine lv_ldc2 (v := zL 2) C.1 C.2.1 C.2.2.2.1 (C.2.2.2.2.1 _ zw_26_8) dX12_attributesOf_20 ?_
        refine z_callVX C (As := [.long (zL 2)]) (rest := []) (c_X12_over l Z (n := n) (q := atp F q i) (b := 2) hM (h9) (h8) (by omega) (by omega) (by omega)) hM.1 rfl ⟨⟨zw_27_7, zw_1_5, zw_27_4⟩, zd_X12_over⟩ zw_27_5 zw_27_6 ⟨Nat.le_of_ble_eq_true rfl, Nat.le_of_ble_eq_true rfl⟩ ⟨rfl, rfl⟩ rfl hl.1 rfl (Nat.le_of_ble_eq_true rfl) dX12_attributesOf_23 ⟨Nat.zero_le _, Nat.zero_le _⟩ hS (fun _ h => h) (fun H9 locs9 q9 ce9 hp9 hS9 _ _ g1 g2 g3 => ?_) (fun v H locs hp hS _ _ => ?_)
        · exact hth _ _ _ _ _ _ _ hS9 (⟨2, n, (by rw [← hx, hu]; exact xAtt_2 (by omega)), ⟨_, hp9.2, rfl, rfl, (chg_sx (by decide) (chg_sx (by decide) (hc.mono (by decide) (by decide))))⟩⟩) g1 g2 g3
        obtain ⟨ho23, rfl, hM⟩ := hp
        refine lv_istore (lv' := [(4, zN (atp F q i)), (3, zN i), (2, zN (U2 F q)), (0, .ref o), (1, zV t)]) C.1 C.2.1 dX12_attributesOf_26 hl (by decide) rfl (fun ls hl => ?_)
        refine lv_aload_n C.1 C.2.1 dX12_attributesOf_28 rfl (lv_at hl 3 rfl) ?_
        refine lv_ldc2 (v := zL 4) C.1 C.2.1 C.2.2.2.1 (C.2.2.2.2.1 _ zw_27_16) dX12_attributesOf_29 ?_
        refine z_callVX C (As := [.long (zL 4)]) (rest := []) (c_X12_over l Z (n := n) (q := atp F q i + 2) (b := 4) hM (rfl) (h8) (by omega) (by omega) (by omega)) hM.1 rfl ⟨⟨zw_27_7, zw_1_5, zw_27_4⟩, zd_X12_over⟩ zw_27_5 zw_27_6 ⟨Nat.le_of_ble_eq_true rfl, Nat.le_of_ble_eq_true rfl⟩ ⟨rfl, rfl⟩ rfl hl.1 rfl (Nat.le_of_ble_eq_true rfl) dX12_attributesOf_32 ⟨Nat.zero_le _, Nat.zero_le _⟩ hS (fun _ h => h) (fun H9 locs9 q9 ce9 hp9 hS9 _ _ g1 g2 g3 => ?_) (fun v H locs hp hS _ _ => ?_)
        · exact hth _ _ _ _ _ _ _ hS9 (⟨2, n, (by rw [← hx, hu]; exact xAtt_2 (by omega)), ⟨_, hp9.2, rfl, rfl, (chg_sx (by decide) (chg_sx (by decide) (chg_sx (by decide) (hc.mono (by decide) (by decide)))))⟩⟩) g1 g2 g3
        obtain ⟨ho32, rfl, hM⟩ := hp
        refine lv_istore (lv' := [(5, zN (atp F q i + 2)), (4, zN (atp F q i)), (3, zN i), (2, zN (U2 F q)), (0, .ref o), (1, zV t)]) C.1 C.2.1 dX12_attributesOf_35 hl (by decide) rfl (fun ls hl => ?_)
        refine lv_aload_n C.1 C.2.1 dX12_attributesOf_37 rfl (lv_at hl 4 rfl) ?_
        refine lv_aload_n C.1 C.2.1 dX12_attributesOf_38 rfl (lv_at hl 4 rfl) ?_
        refine lv_iload C.1 C.2.1 dX12_attributesOf_39 (lv_at hl 0 rfl) ?_
        refine z_readV C (As := [zN (atp F q i + 2)]) (rest := [.ref o]) (c_X12_four l Z hM hB (atp F q i + 2) rfl (by omega)) hM.1 rfl ⟨⟨zw_28_2, zw_1_5, zw_27_23⟩, zd_X12_four⟩ zw_28_0 zw_28_1 ⟨Nat.le_of_ble_eq_true rfl, Nat.le_of_ble_eq_true rfl⟩ ⟨rfl, rfl⟩ rfl hl.1 rfl (Nat.le_of_ble_eq_true rfl) dX12_attributesOf_41 ⟨Nat.zero_le _, Nat.zero_le _⟩ hS (fun locs hS => ?_)
        have := S4_rg hB.1 (atp F q i + 2)
        refine y_i2l C (a := S4 F (atp F q i + 2)) (by omega) dX12_attributesOf_44 ?_
        refine lv_ldc2 (v := zL 4294967295) C.1 C.2.1 C.2.2.2.1 (C.2.2.2.2.1 _ zw_27_18) dX12_attributesOf_45 ?_
        refine lv_land C.1 C.2.1 dX12_attributesOf_48 ?_
        refine z_reL (y := (zL ((U4 F (atp F q i + 2) : Nat) : Int))) (land_U4 hB.1 _) ?_
        refine z_callVX C (As := [.long (zL ((U4 F (atp F q i + 2) : Nat) : Int))]) (rest := []) (c_X12_over l Z (n := n) (q := atp F q i + 2 + 4) (b := U4 F (atp F q i + 2)) hM (rfl) (h8) (by omega) (by omega) (by omega)) hM.1 rfl ⟨⟨zw_27_7, zw_1_5, zw_27_4⟩, zd_X12_over⟩ zw_27_5 zw_27_6 ⟨Nat.le_of_ble_eq_true rfl, Nat.le_of_ble_eq_true rfl⟩ ⟨rfl, rfl⟩ rfl hl.1 rfl (Nat.le_of_ble_eq_true rfl) dX12_attributesOf_49 ⟨Nat.zero_le _, Nat.zero_le _⟩ hS (fun _ h => h) (fun H9 locs9 q9 ce9 hp9 hS9 _ _ g1 g2 g3 => ?_) (fun v H locs hp hS _ _ => ?_)
        · exact hth _ _ _ _ _ _ _ hS9 (⟨2, n, (by rw [← hx, hu]; exact xAtt_2 (by omega)), ⟨_, hp9.2, rfl, rfl, (chg_sx (by decide) (chg_sx (by decide) (chg_sx (by decide) (chg_sx (by decide) (hc.mono (by decide) (by decide))))))⟩⟩) g1 g2 g3
        obtain ⟨ho49, rfl, hM⟩ := hp
        refine lv_pop C.1 C.2.1 dX12_attributesOf_52 rfl ?_
        refine lv_aload_n C.1 C.2.1 dX12_attributesOf_53 rfl (lv_at hl 4 rfl) ?_
        refine m_get C hM 22 (v := .ref (ad 22)) (by decide) zw_5_5 rfl rfl dX12_attributesOf_54 ?_
        refine lv_aload_n C.1 C.2.1 dX12_attributesOf_57 rfl (lv_at hl 4 rfl) ?_
        refine m_get C hM 21 (v := .int ((sx (sx (sx σ1 9 (zI ((atp F q i + 2 : Nat) : Int))) 9 (zI ((atp F q i + 2 + 4 : Nat) : Int))) 9 (zI ((atp F q i + 2 + 4 + (U4 F (atp F q i + 2)) : Nat) : Int))).1 21)) (by decide) zw_26_12 rfl rfl dX12_attributesOf_58 ?_
        refine z_re (y := zI ((na + i : Nat) : Int)) h21 ?_
        refine lv_iload C.1 C.2.1 dX12_attributesOf_61 (lv_at hl 1 rfl) ?_
        refine m_ast C hM 22 (by decide) (na + i) (t := ((na + i : Nat) : Int)) rfl (by show _ < 3000; omega) hS dX12_attributesOf_63 (fun H locs hM hS => ?_)
        refine lv_aload_n C.1 C.2.1 dX12_attributesOf_64 rfl (lv_at hl 4 rfl) ?_
        refine m_get C hM 23 (v := .ref (ad 23)) (by decide) zw_5_6 rfl rfl dX12_attributesOf_65 ?_
        refine lv_aload_n C.1 C.2.1 dX12_attributesOf_68 rfl (lv_at hl 4 rfl) ?_
        refine m_get C hM 21 (v := .int ((sf (sx (sx (sx σ1 9 (zI ((atp F q i + 2 : Nat) : Int))) 9 (zI ((atp F q i + 2 + 4 : Nat) : Int))) 9 (zI ((atp F q i + 2 + 4 + (U4 F (atp F q i + 2)) : Nat) : Int))) 22 (upd ((sx (sx (sx σ1 9 (zI ((atp F q i + 2 : Nat) : Int))) 9 (zI ((atp F q i + 2 + 4 : Nat) : Int))) 9 (zI ((atp F q i + 2 + 4 + (U4 F (atp F q i + 2)) : Nat) : Int))).2.1 22) (na + i) (zI ((atp F q i : Nat) : Int)))).1 21)) (by decide) zw_26_12 rfl rfl dX12_attributesOf_69 ?_
        refine z_re (y := zI ((na + i : Nat) : Int)) h21 ?_
        refine lv_iload_n C.1 C.2.1 dX12_attributesOf_72 rfl (lv_at hl 5 rfl) ?_
        refine m_ast C hM 23 (by decide) (na + i) (t := ((na + i : Nat) : Int)) rfl (by show _ < 3000; omega) hS dX12_attributesOf_73 (fun H locs hM hS => ?_)
        refine lv_aload_n C.1 C.2.1 dX12_attributesOf_74 rfl (lv_at hl 4 rfl) ?_
        refine lv_dup C.1 C.2.1 dX12_attributesOf_75 rfl ?_
        refine m_get C hM 21 (v := .int ((sf (sf (sx (sx (sx σ1 9 (zI ((atp F q i + 2 : Nat) : Int))) 9 (zI ((atp F q i + 2 + 4 : Nat) : Int))) 9 (zI ((atp F q i + 2 + 4 + (U4 F (atp F q i + 2)) : Nat) : Int))) 22 (upd ((sx (sx (sx σ1 9 (zI ((atp F q i + 2 : Nat) : Int))) 9 (zI ((atp F q i + 2 + 4 : Nat) : Int))) 9 (zI ((atp F q i + 2 + 4 + (U4 F (atp F q i + 2)) : Nat) : Int))).2.1 22) (na + i) (zI ((atp F q i : Nat) : Int)))) 23 (upd ((sf (sx (sx (sx σ1 9 (zI ((atp F q i + 2 : Nat) : Int))) 9 (zI ((atp F q i + 2 + 4 : Nat) : Int))) 9 (zI ((atp F q i + 2 + 4 + (U4 F (atp F q i + 2)) : Nat) : Int))) 22 (upd ((sx (sx (sx σ1 9 (zI ((atp F q i + 2 : Nat) : Int))) 9 (zI ((atp F q i + 2 + 4 : Nat) : Int))) 9 (zI ((atp F q i + 2 + 4 + (U4 F (atp F q i + 2)) : Nat) : Int))).2.1 22) (na + i) (zI ((atp F q i : Nat) : Int)))).2.1 23) (na + i) (zI t))).1 21)) (by decide) zw_26_12 rfl rfl dX12_attributesOf_76 ?_
        refine z_re (y := zI ((na + i : Nat) : Int)) h21 ?_
        refine lv_iconst (v := zI 1) C.1 C.2.1 dX12_attributesOf_79 (by decide) ?_
        refine y_iaddN C (a := na + i) (b := 1) dX12_attributesOf_80 ?_
        refine m_put C hM 21 (sx (sf (sf (sx (sx (sx σ1 9 (zI ((atp F q i + 2 : Nat) : Int))) 9 (zI ((atp F q i + 2 + 4 : Nat) : Int))) 9 (zI ((atp F q i + 2 + 4 + (U4 F (atp F q i + 2)) : Nat) : Int))) 22 (upd ((sx (sx (sx σ1 9 (zI ((atp F q i + 2 : Nat) : Int))) 9 (zI ((atp F q i + 2 + 4 : Nat) : Int))) 9 (zI ((atp F q i + 2 + 4 + (U4 F (atp F q i + 2)) : Nat) : Int))).2.1 22) (na + i) (zI ((atp F q i : Nat) : Int)))) 23 (upd ((sf (sx (sx (sx σ1 9 (zI ((atp F q i + 2 : Nat) : Int))) 9 (zI ((atp F q i + 2 + 4 : Nat) : Int))) 9 (zI ((atp F q i + 2 + 4 + (U4 F (atp F q i + 2)) : Nat) : Int))) 22 (upd ((sx (sx (sx σ1 9 (zI ((atp F q i + 2 : Nat) : Int))) 9 (zI ((atp F q i + 2 + 4 : Nat) : Int))) 9 (zI ((atp F q i + 2 + 4 + (U4 F (atp F q i + 2)) : Nat) : Int))).2.1 22) (na + i) (zI ((atp F q i : Nat) : Int)))).2.1 23) (na + i) (zI t))) 21 (zI (((na + i) + 1 : Nat) : Int))) rfl rfl (by decide) zw_26_12 rfl rfl rfl rfl hS dX12_attributesOf_81 (fun H locs hM hS => ?_)
        refine lv_iinc (v := zI ((i + 1 : Nat) : Int)) (lv' := [(3, zN (i + 1)), (5, zN (atp F q i + 2)), (4, zN (atp F q i)), (2, zN (U2 F q)), (0, .ref o), (1, zV t)]) C.1 C.2.1 dX12_attributesOf_84 hl (k := 2) rfl (zI_add _ _) (by decide) rfl (fun ls hl => ?_)
        refine lv_goto (tgt := 14) C.1 C.2.1 dX12_attributesOf_87 (by decide) ?_
        exact ih (i + 1) _ _ ls locs hS hM (by omega) (zI_c (by have := atp_s F q i; omega)) (zI_c (by omega)) (chg_sx (by decide) (chg_sf (by decide) (chg_sf (by decide) (chg_sx (by decide) (chg_sx (by decide) (chg_sx (by decide) hc)))))) (by rw [← hx, hu, xAtt_s (by omega) (by omega), atp_s]; rfl) (by have := atp_s F q i; omega) (by have := atp_s F q i; omega) (by have := atp_s F q i; omega) (fun a ha => ⟨(upd_ne (by omega)).trans (hold a ha).1, (upd_ne (by omega)).trans (hold a ha).2⟩) (lt_s (fun j hj => ⟨(upd_ne (by omega)).trans (hnew j hj).1, (upd_ne (by omega)).trans (hnew j hj).2.1, (hnew j hj).2.2⟩) ⟨upd_2, upd_2, by omega, by omega⟩) (lv_sub hl [0, 3, 4, 5] rfl)
  exact loop (U2 F q + 1) 0 _ _ ls locs hS hM (by omega) rfl h21 (chg_sx (by decide) chg.rf) (by unfold xAtts; rw [if_pos (by omega)]; rfl) (by show q + 2 ≤ n; omega) (by show _ ≤ q + 2; omega) (Nat.le_refl _) (fun _ _ => ⟨rfl, rfl⟩) (fun j h => absurd h (by omega)) hl

theorem xMem_s {F : Nat → Nat} {n c q i q' : Nat} {mt : Nat → Nat} (h : q + 6 ≤ n) (h2 : xAtts F n (q + 6) = .ok q') : xMem F n (c + 1) q i mt = xMem F n c q' (i + 1) (va_up mt i q) := by
  conv => lhs; unfold xMem
  rw [if_pos h, h2]
theorem xMem_e {F : Nat → Nat} {n c q i : Nat} {mt : Nat → Nat} {e : E2} (h : q + 6 ≤ n) (h2 : xAtts F n (q + 6) = .error e) : xMem F n (c + 1) q i mt = .error e := by
  conv => lhs; unfold xMem
  rw [if_pos h, h2]
theorem xMem_2 {F : Nat → Nat} {n c q i : Nat} {mt : Nat → Nat} (h : ¬ q + 6 ≤ n) : xMem F n (c + 1) q i mt = .error (2, n) := by
  conv => lhs; unfold xMem
  rw [if_neg h]

set_option maxHeartbeats 4000000 in
set_option maxRecDepth 20000 in
theorem c_X12_members (l : Launch) (Z : zT) {H : Heap} {o : Nat} {ad : Nat → Nat} {σ : mS} (hM : isM Z H o ad σ) {F : Nat → Nat} {n : Nat} (hB : mSrc σ F n) {q mc : Nat} {mt : Nat → Nat} (h9 : σ.1 9 = zI (q : Int)) (h8 : σ.1 8 = zI (n : Int)) (hq : q ≤ n) (h17 : σ.1 17 = zI (mc : Int)) (hmc : mc ≤ 24) (hA : mAtts σ F n mt mc) (h6 : 6 * abase F mt mc ≤ q) : zX l Z yX12_members cX12_members 4 none (rmk 5) [.ref o] H (mA o ad) 0 0 (fun v H' => v = none ∧ ∃ (σ' : mS) (q' : Nat) (mt' : Nat → Nat), xMems F n q mc mt = .ok (q', mt') ∧ q' ≤ n ∧ q + 2 ≤ q' ∧ isM Z H' o ad σ' ∧ σ'.1 9 = zI (q' : Int) ∧ σ'.1 17 = zI ((mc + U2 F q : Nat) : Int) ∧ U2 F q ≤ 24 ∧ chg [9, 17, 21] [20, 22, 23] σ σ' ∧ mAtts σ' F n mt' (mc + U2 F q) ∧ 6 * abase F mt' (mc + U2 F q) ≤ q') (fun H' => ∃ r w : Nat, xMems F n q mc mt = .error (r, w) ∧ mBrk Z o ad LX LF σ r w H') := by
  have hB0 := hB
  have hn := hB.2.2.2
  refine zX.introV (own := RX12) ⟨by decide, rfl⟩ (Nat.le_of_ble_eq_true rfl) ?_
  intro p e s m args below meth c Q ls hH C hl hth hret
  have hS : va_S (mA o ad) s.heap H [] := by rw [hH]; exact va_S.rf
  have hl : lv_has ls 4 [(0, .ref o)] := hl
  refine lv_aload_n C.1 C.2.1 dX12_members_0 rfl (lv_at hl 0 rfl) ?_
  refine lv_ldc2 (v := zL 2) C.1 C.2.1 C.2.2.2.1 (C.2.2.2.2.1 _ zw_26_8) dX12_members_1 ?_
  refine z_callVX C (As := [.long (zL 2)]) (rest := []) (c_X12_over l Z (n := n) (q := q) (b := 2) hM (h9) (h8) (by omega) (by omega) (by omega)) hM.1 rfl ⟨⟨zw_27_7, zw_1_5, zw_27_4⟩, zd_X12_over⟩ zw_27_5 zw_27_6 ⟨Nat.le_of_ble_eq_true rfl, Nat.le_of_ble_eq_true rfl⟩ ⟨rfl, rfl⟩ rfl hl.1 rfl (Nat.le_of_ble_eq_true rfl) dX12_members_4 ⟨Nat.zero_le _, Nat.zero_le _⟩ hS (fun _ h => h) (fun H9 locs9 q9 ce9 hp9 hS9 _ _ g1 g2 g3 => ?_) (fun v H locs hp hS _ _ => ?_)
  · exact hth _ _ _ _ _ _ _ hS9 (⟨2, n, (by unfold xMems; rw [if_neg (by omega)]), ⟨_, hp9.2, rfl, rfl, (chg_sx (by decide) (chg_sx (by decide) chg.rf))⟩⟩) g1 g2 g3
  obtain ⟨ho4, rfl, hM⟩ := hp
  refine lv_istore_n (lv' := [(1, zN q), (0, .ref o)]) C.1 C.2.1 dX12_members_7 rfl hl (by decide) rfl (fun ls hl => ?_)
  refine lv_aload_n C.1 C.2.1 dX12_members_8 rfl (lv_at hl 1 rfl) ?_
  refine lv_iload_n C.1 C.2.1 dX12_members_9 rfl (lv_at hl 0 rfl) ?_
  refine z_readV C (As := [zN q]) (rest := []) (c_X12_two l Z hM hB q rfl (by omega)) hM.1 rfl ⟨⟨zw_27_11, zw_1_5, zw_27_8⟩, zd_X12_two⟩ zw_27_9 zw_27_10 ⟨Nat.le_of_ble_eq_true rfl, Nat.le_of_ble_eq_true rfl⟩ ⟨rfl, rfl⟩ rfl hl.1 rfl (Nat.le_of_ble_eq_true rfl) dX12_members_10 ⟨Nat.zero_le _, Nat.zero_le _⟩ hS (fun locs hS => ?_)
  have := U2_lt hB.1 q
  refine lv_istore_n (lv' := [(2, zN (U2 F q)), (1, zN q), (0, .ref o)]) C.1 C.2.1 dX12_members_13 rfl hl (by decide) rfl (fun ls hl => ?_)
  refine lv_aload_n C.1 C.2.1 dX12_members_14 rfl (lv_at hl 2 rfl) ?_
  refine lv_iload_n C.1 C.2.1 dX12_members_15 rfl (lv_at hl 0 rfl) ?_
  refine lv_bipush (v := zI 24) C.1 C.2.1 dX12_members_16 (by decide) ?_
  refine y_icmp_gt (tgt := 25) C (a := ((U2 F q : Nat) : Int)) (b := 24) dX12_members_18 (by decide) (by omega) (fun h18 => ?_) (fun h18 => ?_)
  · refine lv_iconst (v := zI 0) C.1 C.2.1 dX12_members_25 (by decide) ?_
    refine lv_iconst (v := zI 5) C.1 C.2.1 dX12_members_26 (by decide) ?_
    refine lv_iload_n C.1 C.2.1 dX12_members_27 rfl (lv_at hl 1 rfl) ?_
    refine z_callVX C (As := [zV (bI false), zN 5, zN q]) (rest := []) (c_X12_must l Z hM false (zI 5) (zI ((q : Nat) : Int))) hM.1 rfl ⟨⟨zw_26_16, zw_1_5, zw_26_13⟩, zd_X12_must⟩ zw_26_14 zw_26_15 ⟨Nat.le_of_ble_eq_true rfl, Nat.le_of_ble_eq_true rfl⟩ ⟨rfl, rfl⟩ rfl hl.1 rfl (Nat.le_of_ble_eq_true rfl) dX12_members_28 ⟨Nat.zero_le _, Nat.zero_le _⟩ hS (fun _ h => h) (fun H9 locs9 q9 ce9 hp9 hS9 _ _ g1 g2 g3 => ?_) (fun v H locs hp hS _ _ => ?_)
    · exact hth _ _ _ _ _ _ _ hS9 (⟨5, q, (by unfold xMems; rw [if_pos (by omega), if_neg (by omega)]), ⟨_, hp9.2, rfl, rfl, (chg_sx (by decide) (chg_sx (by decide) (chg_sx (by decide) chg.rf)))⟩⟩) g1 g2 g3
    exact absurd hp.1 (by decide)
  · refine lv_iconst (v := zI 1) C.1 C.2.1 dX12_members_21 (by decide) ?_
    refine lv_goto (tgt := 26) C.1 C.2.1 dX12_members_22 (by decide) ?_
    refine lv_iconst (v := zI 5) C.1 C.2.1 dX12_members_26 (by decide) ?_
    refine lv_iload_n C.1 C.2.1 dX12_members_27 rfl (lv_at hl 1 rfl) ?_
    refine z_callVX C (As := [zV (bI true), zN 5, zN q]) (rest := []) (c_X12_must l Z hM true (zI 5) (zI ((q : Nat) : Int))) hM.1 rfl ⟨⟨zw_26_16, zw_1_5, zw_26_13⟩, zd_X12_must⟩ zw_26_14 zw_26_15 ⟨Nat.le_of_ble_eq_true rfl, Nat.le_of_ble_eq_true rfl⟩ ⟨rfl, rfl⟩ rfl hl.1 rfl (Nat.le_of_ble_eq_true rfl) dX12_members_28 ⟨Nat.zero_le _, Nat.zero_le _⟩ hS (fun _ h => h) (fun H9 locs9 q9 ce9 hp9 hS9 _ _ g1 g2 g3 => ?_) (fun v H locs hp hS _ _ => ?_)
    · exact absurd hp9.1 (by decide)
    obtain ⟨-, rfl, hM⟩ := hp
    refine lv_iconst (v := zI 0) C.1 C.2.1 dX12_members_31 (by decide) ?_
    refine lv_istore_n (lv' := [(3, zN 0), (2, zN (U2 F q)), (1, zN q), (0, .ref o)]) C.1 C.2.1 dX12_members_32 rfl hl (by decide) rfl (fun ls hl => ?_)
    have loop : ∀ (fu : Nat) (i p9 : Nat) (mt1 : Nat → Nat) (σ1 : mS) (H : Heap) (ls : Array Slot) (locs : List Loc), va_S (mA o ad) s.heap H locs → isM Z H o ad σ1 → (i + fu = U2 F q + 1 ∧ i ≤ U2 F q) → (σ1.1 9 = zI (p9 : Int)) → (σ1.1 17 = zI ((mc + i : Nat) : Int)) → (chg [9, 17, 21] [20, 22, 23] σ σ1) → (xMem F n (U2 F q - i) p9 (mc + i) mt1 = xMems F n q mc mt) → (p9 ≤ n) → (q + 2 ≤ p9) → (mAtts σ1 F n mt1 (mc + i)) → (6 * abase F mt1 (mc + i) ≤ p9) → lv_has ls 4 [(3, zN i), (2, zN (U2 F q)), (0, .ref o), (1, zN q)] → W p l e (rmk 5) s m args below meth c H locs 0 0 Q (F0 m 33 ls []) := by
      intro fu
      induction fu with
      | zero =>
        intro i p9 mt1 σ1 H ls locs hS hM hi h9 h17 hc hx hin hlow hA h6 hl
        omega
      | succ fu ih =>
        intro i p9 mt1 σ1 H ls locs hS hM hi h9 h17 hc hx hin hlow hA h6 hl
        have hB := hB0.chg hc (by decide) (by decide)
        have h8 : σ1.1 8 = zI (n : Int) := (hc.1 8 (by decide)).trans h8
        refine lv_iload_n C.1 C.2.1 dX12_members_33 rfl (lv_at hl 0 rfl) ?_
        refine lv_iload_n C.1 C.2.1 dX12_members_34 rfl (lv_at hl 1 rfl) ?_
        refine y_icmp_ge (tgt := 86) C (a := ((i : Nat) : Int)) (b := ((U2 F q : Nat) : Int)) dX12_members_35 (by decide) (by omega) (fun h35 => ?_) (fun h35 => ?_)
        · exact hret _ _ _ _ hS ⟨rfl, σ1, p9, mt1, (by rw [← hx, show U2 F q - i = 0 by omega]; rfl), hin, hlow, hM, h9, by rw [h17, show i = U2 F q by omega], by omega, hc, by rw [show U2 F q = i by omega]; exact hA, by rw [show U2 F q = i by omega]; exact h6⟩ dX12_members_86
        · have hu : U2 F q - i = (U2 F q - i - 1) + 1 := by omega
          refine lv_aload_n C.1 C.2.1 dX12_members_38 rfl (lv_at hl 2 rfl) ?_
          refine m_get C hM 20 (v := .ref (ad 20)) (by decide) zw_5_4 rfl rfl dX12_members_39 ?_
          refine lv_aload_n C.1 C.2.1 dX12_members_42 rfl (lv_at hl 2 rfl) ?_
          refine m_get C hM 17 (v := .int (σ1.1 17)) (by decide) zw_25_23 rfl rfl dX12_members_43 ?_
          refine z_re (y := zI ((mc + i : Nat) : Int)) h17 ?_
          refine lv_aload_n C.1 C.2.1 dX12_members_46 rfl (lv_at hl 2 rfl) ?_
          refine lv_ldc2 (v := zL 2) C.1 C.2.1 C.2.2.2.1 (C.2.2.2.2.1 _ zw_26_8) dX12_members_47 ?_
          refine z_callVX C (As := [.long (zL 2)]) (rest := [zN (mc + i), .ref (ad 20)]) (c_X12_over l Z (n := n) (q := p9) (b := 2) hM (h9) (h8) (by omega) (by omega) (by omega)) hM.1 rfl ⟨⟨zw_27_7, zw_1_5, zw_27_4⟩, zd_X12_over⟩ zw_27_5 zw_27_6 ⟨Nat.le_of_ble_eq_true rfl, Nat.le_of_ble_eq_true rfl⟩ ⟨rfl, rfl⟩ rfl hl.1 rfl (Nat.le_of_ble_eq_true rfl) dX12_members_50 ⟨Nat.zero_le _, Nat.zero_le _⟩ hS (fun _ h => h) (fun H9 locs9 q9 ce9 hp9 hS9 _ _ g1 g2 g3 => ?_) (fun v H locs hp hS _ _ => ?_)
          · exact hth _ _ _ _ _ _ _ hS9 (⟨2, n, (by rw [← hx, hu]; exact xMem_2 (by omega)), ⟨_, hp9.2, rfl, rfl, (chg_sx (by decide) (chg_sx (by decide) (hc.mono (by decide) (by decide))))⟩⟩) g1 g2 g3
          obtain ⟨ho50, rfl, hM⟩ := hp
          refine m_ast C hM 20 (by decide) (mc + i) (t := ((mc + i : Nat) : Int)) rfl (by show _ < 48; omega) hS dX12_members_53 (fun H locs hM hS => ?_)
          refine lv_aload_n C.1 C.2.1 dX12_members_54 rfl (lv_at hl 2 rfl) ?_
          refine lv_ldc2 (v := zL 4) C.1 C.2.1 C.2.2.2.1 (C.2.2.2.2.1 _ zw_27_16) dX12_members_55 ?_
          refine z_callVX C (As := [.long (zL 4)]) (rest := []) (c_X12_over l Z (n := n) (q := p9 + 2) (b := 4) hM (rfl) (h8) (by omega) (by omega) (by omega)) hM.1 rfl ⟨⟨zw_27_7, zw_1_5, zw_27_4⟩, zd_X12_over⟩ zw_27_5 zw_27_6 ⟨Nat.le_of_ble_eq_true rfl, Nat.le_of_ble_eq_true rfl⟩ ⟨rfl, rfl⟩ rfl hl.1 rfl (Nat.le_of_ble_eq_true rfl) dX12_members_58 ⟨Nat.zero_le _, Nat.zero_le _⟩ hS (fun _ h => h) (fun H9 locs9 q9 ce9 hp9 hS9 _ _ g1 g2 g3 => ?_) (fun v H locs hp hS _ _ => ?_)
          · exact hth _ _ _ _ _ _ _ hS9 (⟨2, n, (by rw [← hx, hu]; exact xMem_2 (by omega)), ⟨_, hp9.2, rfl, rfl, (chg_sx (by decide) (chg_sx (by decide) (chg_sf (by decide) (chg_sx (by decide) (hc.mono (by decide) (by decide))))))⟩⟩) g1 g2 g3
          obtain ⟨ho58, rfl, hM⟩ := hp
          refine lv_pop C.1 C.2.1 dX12_members_61 rfl ?_
          refine lv_aload_n C.1 C.2.1 dX12_members_62 rfl (lv_at hl 2 rfl) ?_
          refine lv_aload_n C.1 C.2.1 dX12_members_63 rfl (lv_at hl 2 rfl) ?_
          refine m_get C hM 17 (v := .int ((sx (sf (sx σ1 9 (zI ((p9 + 2 : Nat) : Int))) 20 (upd ((sx σ1 9 (zI ((p9 + 2 : Nat) : Int))).2.1 20) (mc + i) (zI ((p9 : Nat) : Int)))) 9 (zI ((p9 + 2 + 4 : Nat) : Int))).1 17)) (by decide) zw_25_23 rfl rfl dX12_members_64 ?_
          refine z_re (y := zI ((mc + i : Nat) : Int)) h17 ?_
          refine z_callVX C (As := [zN (mc + i)]) (rest := []) (c_X12_attributesOf l Z hM hB (q := p9 + 6) (na := abase F mt1 (mc + i)) ((mc + i : Nat) : Int) (rfl) (h8) (by omega) (hA.1) (by omega)) hM.1 rfl ⟨⟨zw_28_10, zw_1_5, zw_28_7⟩, zd_X12_attributesOf⟩ zw_28_8 zw_28_9 ⟨Nat.le_of_ble_eq_true rfl, Nat.le_of_ble_eq_true rfl⟩ ⟨rfl, rfl⟩ rfl hl.1 rfl (Nat.le_of_ble_eq_true rfl) dX12_members_67 ⟨Nat.zero_le _, Nat.zero_le _⟩ hS (fun _ h => h) (fun H9 locs9 q9 ce9 hp9 hS9 _ _ g1 g2 g3 => ?_) (fun v H locs hp hS _ _ => ?_)
          · obtain ⟨r, w, hx9, hb9⟩ := hp9
            exact hth _ _ _ _ _ _ _ hS9 ⟨r, w, (by rw [← hx, hu]; exact xMem_e (by omega) hx9), hb9.tr (chg_sx (by decide) (chg_sf (by decide) (chg_sx (by decide) (hc.mono (by decide) (by decide)))))⟩ g1 g2 g3
          obtain ⟨rfl, σ2, q2, hx2, hq2, hq22, hM, h92, h212, h62, hc2, hold2, hnew2⟩ := hp
          refine lv_aload_n C.1 C.2.1 dX12_members_70 rfl (lv_at hl 2 rfl) ?_
          refine lv_dup C.1 C.2.1 dX12_members_71 rfl ?_
          refine m_get C hM 17 (v := .int (σ2.1 17)) (by decide) zw_25_23 rfl rfl dX12_members_72 ?_
          refine z_re (y := zI ((mc + i : Nat) : Int)) ((hc2.1 17 (by decide)).trans h17) ?_
          refine lv_iconst (v := zI 1) C.1 C.2.1 dX12_members_75 (by decide) ?_
          refine y_iaddN C (a := mc + i) (b := 1) dX12_members_76 ?_
          refine m_put C hM 17 (sx σ2 17 (zI (((mc + i) + 1 : Nat) : Int))) rfl rfl (by decide) zw_25_23 rfl rfl rfl rfl hS dX12_members_77 (fun H locs hM hS => ?_)
          refine lv_iinc (v := zI ((i + 1 : Nat) : Int)) (lv' := [(3, zN (i + 1)), (2, zN (U2 F q)), (0, .ref o), (1, zN q)]) C.1 C.2.1 dX12_members_80 hl (k := 0) rfl (zI_add _ _) (by decide) rfl (fun ls hl => ?_)
          refine lv_goto (tgt := 33) C.1 C.2.1 dX12_members_83 (by decide) ?_
          exact ih (i + 1) q2 (va_up mt1 (mc + i) p9) _ _ ls locs hS hM (by omega) h92 rfl (((chg_sx (by decide) (chg_sf (by decide) (chg_sx (by decide) hc)))).tr (chg_sx (by decide) (hc2.mono (by decide) (by decide)))) (by rw [← hx, hu, xMem_s (by omega) hx2]; rfl) hq2 (by omega) (mAtts_keep (mAtts_s hA h212 (fun j hj => by rw [hc2.2.1 20 (by decide)]; exact upd_ne (by omega)) (by rw [hc2.2.1 20 (by decide)]; exact upd_2) (by omega) hold2 hnew2) rfl rfl rfl rfl) (by show 6 * (abase F (va_up mt1 (mc + i) p9) (mc + i) + U2 F (va_up mt1 (mc + i) p9 (mc + i) + 6)) ≤ q2; rw [abase_up _ (Nat.le_refl _), va_up_self]; exact h62) hl
    exact loop (U2 F q + 1) 0 (q + 2) mt _ _ ls locs hS hM (by omega) rfl h17 (chg_sx (by decide) chg.rf) (by unfold xMems; rw [if_pos (by omega), if_pos (by omega)]; rfl) (by omega) (Nat.le_refl _) (mAtts_keep hA rfl rfl rfl rfl) (by show 6 * abase F mt mc ≤ q + 2; omega) (lv_sub hl [0, 1, 3, 2] rfl)
