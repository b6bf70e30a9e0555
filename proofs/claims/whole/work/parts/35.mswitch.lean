/-! the model: switched -/
theorem mBrk_up {Z : zT} {o : Nat} {ad : Nat → Nat} {xs fs xs' fs' : List Nat} {σ σ1 : mS} {r q : Nat} {H : Heap} (h : chg xs fs σ σ1) (g : mBrk Z o ad xs' fs' σ1 r q H) (h1 : ∀ k ∈ xs', k ∈ xs) (h2 : ∀ k ∈ fs', k ∈ fs) : mBrk Z o ad xs fs σ r q H := by
  obtain ⟨σ', g1, g2, g3, g4⟩ := g
  exact ⟨σ', g1, g2, g3, h.tr (g4.mono h1 h2)⟩
/-- where the i-th target of the switch at q stands, from the code's first -/
def swT (q b i : Nat) : Nat := if b = 170 then swF q + 12 + 4 * i else swF q + 12 + 8 * i
def swA (F : Nat → Nat) (ca sz : Nat) (na : Nat → Int) (q b : Nat) : Nat → Nat → Bool
  | 0, _ => true
  | c + 1, i => if ptOk sz na ((q : Int) + S4 F (ca + swT q b i)) = true then swA F ca sz na q b c (i + 1) else false
def swG (F : Nat → Nat) (ca sz : Nat) (na : Nat → Int) (q b M : Nat) : Bool := if ptOk sz na ((q : Int) + S4 F (ca + swF q)) = true then swA F ca sz na q b M 0 else false
/-- the j-th number of the switch's table -/
def tbL (F : Nat → Nat) (ca : Nat) (na : Nat → Int) (q b j : Nat) : Int :=
  if j = 0 then na ((q : Int) + S4 F (ca + swF q)).toNat else
  if j % 2 = 1 then (if b = 170 then S4 F (ca + (swF q + 4)) + (j / 2 : Nat) else S4 F (ca + (swF q + 8 + 8 * (j / 2)))) else na ((q : Int) + S4 F (ca + swT q b (j / 2 - 1))).toNat
def swM (F : Nat → Nat) (ca sz q b M : Nat) : Prop := (b = 170 ∧ S4 F (ca + (swF q + 8)) - S4 F (ca + (swF q + 4)) + 1 = (M : Int) ∧ 1 ≤ M ∧ M ≤ 201 ∧ swF q + 12 + 4 * M ≤ sz) ∨ (b = 171 ∧ S4 F (ca + (swF q + 4)) = (M : Int) ∧ M ≤ 200 ∧ swF q + 8 + 8 * M ≤ sz)
theorem swA_s {F : Nat → Nat} {ca sz : Nat} {na : Nat → Int} {q b c i : Nat} (h : ptOk sz na ((q : Int) + S4 F (ca + swT q b i)) = true) : swA F ca sz na q b (c + 1) i = swA F ca sz na q b c (i + 1) := by
  conv => lhs; unfold swA
  rw [if_pos h]
theorem swA_f {F : Nat → Nat} {ca sz : Nat} {na : Nat → Int} {q b c i : Nat} (h : ptOk sz na ((q : Int) + S4 F (ca + swT q b i)) = false) : swA F ca sz na q b (c + 1) i = false := by
  unfold swA
  rw [if_neg (by rw [h]; decide)]
theorem swT_a (q i : Nat) : swT q 170 i = swF q + 12 + 4 * i := rfl
theorem swT_b {q b i : Nat} (h : b ≠ 170) : swT q b i = swF q + 12 + 8 * i := if_neg h
theorem le_2 {f : Nat → Int32} {g : Nat → Int} {ts j : Nat} {x y : Int} (h : ∀ a, a ≤ 2 * j → f (ts + a) = zI (g a)) (hx : x = g (2 * j + 1)) (hy : y = g (2 * j + 2)) : ∀ a, a ≤ 2 * (j + 1) → upd (upd f (ts + 1 + 2 * j) (zI x)) (ts + 1 + 2 * j + 1) (zI y) (ts + a) = zI (g a) := by
  intro a ha
  by_cases e1 : a = 2 * j + 2
  · subst e1
    rw [show ts + (2 * j + 2) = ts + 1 + 2 * j + 1 by omega, ← hy]
    exact upd_2
  · rw [show upd (upd f (ts + 1 + 2 * j) (zI x)) (ts + 1 + 2 * j + 1) (zI y) (ts + a) = upd f (ts + 1 + 2 * j) (zI x) (ts + a) from upd_ne (by omega)]
    by_cases e2 : a = 2 * j + 1
    · subst e2
      rw [show ts + (2 * j + 1) = ts + 1 + 2 * j by omega, ← hx]
      exact upd_2
    · exact (upd_ne (by omega)).trans (h a (by omega))

set_option maxHeartbeats 4000000 in
set_option maxRecDepth 20000 in
theorem c_X12_switched (l : Launch) (Z : zT) {H : Heap} {o : Nat} {ad : Nat → Nat} {σ : mS} (hM : isM Z H o ad σ) {F : Nat → Nat} {n : Nat} (hB : mSrc σ F n) {ca sz ts nc M : Nat} {na : Nat → Int} (h32 : σ.1 32 = zI (ca : Int)) (h33 : σ.1 33 = zI (sz : Int)) (hca : ca ≤ 16000) (hcs : ca + sz ≤ n) (hsz : sz ≤ 1200) (hna : ∀ j, j < sz → σ.2.1 34 j = zI (na j) ∧ -1 ≤ na j ∧ na j ≤ 1200) (h37 : σ.1 37 = zI (nc : Int)) (hnc : nc < 28800) (h39 : σ.1 39 = zI (ts : Int)) (hts : ts + 1 + 2 * M ≤ 40000) (q b : Nat) (hq : q < sz) (hb0 : b < 256) (hM9 : swM F ca sz q b M) : zX l Z yX12_switched cX12_switched 8 none (rmk 5) [.ref o, zN q, zN b] H (mA o ad) 0 0 (fun v H' => v = none ∧ swG F ca sz na q b M = true ∧ ∃ σ3 : mS, isM Z H' o ad (rowR σ3 nc ((b : Int), (ts : Int), (M : Int))) ∧ chg [39] [38] σ σ3 ∧ σ3.1 39 = zI ((ts + 1 + 2 * M : Nat) : Int) ∧ (∀ a, a < ts → σ3.2.1 38 a = σ.2.1 38 a) ∧ ∀ a, a ≤ 2 * M → σ3.2.1 38 (ts + a) = zI (tbL F ca na q b a)) (fun H' => swG F ca sz na q b M = false ∧ mBrk Z o ad [4, 5, 39] [38] σ 16 (ca + q) H') := by
  have hB0 := hB
  have hna0 := hna
  have hn := hB.2.2.2
  have hsw := swF_rg q
  have hM9 := (show (b = 170 ∧ S4 F (ca + (swF q + 8)) - S4 F (ca + (swF q + 4)) + 1 = (M : Int) ∧ 1 ≤ M ∧ M ≤ 201 ∧ swF q + 12 + 4 * M ≤ sz) ∨ (b = 171 ∧ S4 F (ca + (swF q + 4)) = (M : Int) ∧ M ≤ 200 ∧ swF q + 8 + 8 * M ≤ sz) from hM9)
  have hq12 : q ≤ 1200 := by omega
  have hq := hq12
  refine zX.introV (own := RX12) ⟨by decide, rfl⟩ (Nat.le_of_ble_eq_true rfl) ?_
  intro p e s m args below meth c Q ls hH C hl hth hret
  have hS : va_S (mA o ad) s.heap H [] := by rw [hH]; exact va_S.rf
  have hl : lv_has ls 8 [(0, .ref o), (1, zN q), (2, zN b)] := hl
  refine lv_iload_n C.1 C.2.1 dX12_switched_0 rfl (lv_at hl 1 rfl) ?_
  refine z_readS C (As := [zN q]) (rest := []) (c_X12_switchFrom l Z q rfl (by omega)) ⟨⟨zw_32_19, zw_1_5, zw_32_17⟩, zd_X12_switchFrom⟩ zw_32_18 ⟨Nat.le_of_ble_eq_true rfl, Nat.le_of_ble_eq_true rfl⟩ ⟨rfl, rfl⟩ rfl hl.1 rfl (Nat.le_of_ble_eq_true rfl) dX12_switched_1 ⟨Nat.zero_le _, Nat.zero_le _⟩ hS (fun locs hS => ?_)
  have hsw := swF_rg q
  refine lv_istore_n (lv' := [(3, zN (swF q)), (0, .ref o), (1, zN q), (2, zN b)]) C.1 C.2.1 dX12_switched_4 rfl hl (by decide) rfl (fun ls hl => ?_)
  refine lv_aload_n C.1 C.2.1 dX12_switched_5 rfl (lv_at hl 1 rfl) ?_
  refine m_get C hM 39 (v := .int (σ.1 39)) (by decide) zw_26_2 rfl rfl dX12_switched_6 ?_
  refine z_re (y := zI ((ts : Nat) : Int)) h39 ?_
  refine lv_istore (lv' := [(4, zN ts), (3, zN (swF q)), (0, .ref o), (1, zN q), (2, zN b)]) C.1 C.2.1 dX12_switched_9 hl (by decide) rfl (fun ls hl => ?_)
  refine lv_aload_n C.1 C.2.1 dX12_switched_11 rfl (lv_at hl 2 rfl) ?_
  refine m_get C hM 38 (v := .ref (ad 38)) (by decide) zw_5_17 rfl rfl dX12_switched_12 ?_
  refine lv_aload_n C.1 C.2.1 dX12_switched_15 rfl (lv_at hl 2 rfl) ?_
  refine m_get C hM 39 (v := .int (σ.1 39)) (by decide) zw_26_2 rfl rfl dX12_switched_16 ?_
  refine z_re (y := zI ((ts : Nat) : Int)) h39 ?_
  refine lv_aload_n C.1 C.2.1 dX12_switched_19 rfl (lv_at hl 2 rfl) ?_
  refine lv_iload_n C.1 C.2.1 dX12_switched_20 rfl (lv_at hl 3 rfl) ?_
  refine lv_aload_n C.1 C.2.1 dX12_switched_21 rfl (lv_at hl 2 rfl) ?_
  refine lv_iload_n C.1 C.2.1 dX12_switched_22 rfl (lv_at hl 1 rfl) ?_
  refine z_readV C (As := [zN (swF q)]) (rest := [zN q, .ref o, zN ts, .ref (ad 38)]) (c_X12_codeFour l Z hM hB h32 (swF q) rfl (by omega)) hM.1 rfl ⟨⟨zw_32_23, zw_1_5, zw_32_20⟩, zd_X12_codeFour⟩ zw_32_21 zw_32_22 ⟨Nat.le_of_ble_eq_true rfl, Nat.le_of_ble_eq_true rfl⟩ ⟨rfl, rfl⟩ rfl hl.1 rfl (Nat.le_of_ble_eq_true rfl) dX12_switched_23 ⟨Nat.zero_le _, Nat.zero_le _⟩ hS (fun locs hS => ?_)
  have := S4_rg hB.1 (ca + (swF q))
  refine z_callVX C (As := [zN q, zV (S4 F (ca + (swF q)))]) (rest := [zN ts, .ref (ad 38)]) (c_X12_pointedAt l Z hM h32 h33 hca hsz hna q (S4 F (ca + (swF q))) hq (by omega)) hM.1 rfl ⟨⟨zw_34_17, zw_1_5, zw_34_14⟩, zd_X12_pointedAt⟩ zw_34_15 zw_34_16 ⟨Nat.le_of_ble_eq_true rfl, Nat.le_of_ble_eq_true rfl⟩ ⟨rfl, rfl⟩ rfl hl.1 rfl (Nat.le_of_ble_eq_true rfl) dX12_switched_26 ⟨Nat.zero_le _, Nat.zero_le _⟩ hS (fun _ h => h) (fun H9 locs9 q9 ce9 hp9 hS9 _ _ g1 g2 g3 => ?_) (fun v H locs hp hS _ _ => ?_)
  · exact hth _ _ _ _ _ _ _ hS9 (⟨(by unfold swG; rw [if_neg (by rw [hp9.1]; decide)]), mBrk_up (chg.rf) hp9.2 (by decide) (by decide)⟩) g1 g2 g3
  obtain ⟨hpk26, rfl, hM⟩ := hp
  refine m_ast C hM 38 (by decide) ts (t := ((ts : Nat) : Int)) rfl (by show _ < 40000; omega) hS dX12_switched_29 (fun H locs hM hS => ?_)
  refine lv_aload_n C.1 C.2.1 dX12_switched_30 rfl (lv_at hl 2 rfl) ?_
  refine lv_dup C.1 C.2.1 dX12_switched_31 rfl ?_
  refine m_get C hM 39 (v := .int ((sf σ 38 (upd (σ.2.1 38) ts (zI (na ((q : Int) + S4 F (ca + (swF q))).toNat)))).1 39)) (by decide) zw_26_2 rfl rfl dX12_switched_32 ?_
  refine z_re (y := zI ((ts : Nat) : Int)) h39 ?_
  refine lv_iconst (v := zI 1) C.1 C.2.1 dX12_switched_35 (by decide) ?_
  refine y_iaddN C (a := ts) (b := 1) dX12_switched_36 ?_
  refine m_put C hM 39 (sx (sf σ 38 (upd (σ.2.1 38) ts (zI (na ((q : Int) + S4 F (ca + (swF q))).toNat)))) 39 (zI ((ts + 1 : Nat) : Int))) rfl rfl (by decide) zw_26_2 rfl rfl rfl rfl hS dX12_switched_37 (fun H locs hM hS => ?_)
  refine lv_aload_n C.1 C.2.1 dX12_switched_40 rfl (lv_at hl 2 rfl) ?_
  refine lv_iload_n C.1 C.2.1 dX12_switched_41 rfl (lv_at hl 1 rfl) ?_
  refine lv_iconst (v := zI 4) C.1 C.2.1 dX12_switched_42 (by decide) ?_
  refine y_iaddN C (a := swF q) (b := 4) dX12_switched_43 ?_
  refine z_readV C (As := [zN ((swF q) + 4)]) (rest := []) (c_X12_codeFour l Z hM hB h32 ((swF q) + 4) rfl (by omega)) hM.1 rfl ⟨⟨zw_32_23, zw_1_5, zw_32_20⟩, zd_X12_codeFour⟩ zw_32_21 zw_32_22 ⟨Nat.le_of_ble_eq_true rfl, Nat.le_of_ble_eq_true rfl⟩ ⟨rfl, rfl⟩ rfl hl.1 rfl (Nat.le_of_ble_eq_true rfl) dX12_switched_44 ⟨Nat.zero_le _, Nat.zero_le _⟩ hS (fun locs hS => ?_)
  have := S4_rg hB.1 (ca + ((swF q) + 4))
  refine lv_istore (lv' := [(5, zV (S4 F (ca + ((swF q) + 4)))), (4, zN ts), (3, zN (swF q)), (0, .ref o), (1, zN q), (2, zN b)]) C.1 C.2.1 dX12_switched_47 hl (by decide) rfl (fun ls hl => ?_)
  refine lv_iload_n C.1 C.2.1 dX12_switched_49 rfl (lv_at hl 5 rfl) ?_
  refine lv_sipush (v := zI 170) C.1 C.2.1 dX12_switched_50 (by decide) ?_
  refine y_icmp_ne (tgt := 72) C (a := ((b : Nat) : Int)) (b := 170) dX12_switched_53 (by decide) (by omega) (fun h53 => ?_) (fun h53 => ?_)
  · refine lv_iload C.1 C.2.1 dX12_switched_72 (lv_at hl 0 rfl) ?_
    refine z_re (y := zI ((M : Nat) : Int)) (zI_c (by omega)) ?_
    refine lv_istore (lv' := [(6, zN M), (5, zV (S4 F (ca + ((swF q) + 4)))), (4, zN ts), (3, zN (swF q)), (0, .ref o), (1, zN q), (2, zN b)]) C.1 C.2.1 dX12_switched_74 hl (by decide) rfl (fun ls hl => ?_)
    refine lv_iconst (v := zI 0) C.1 C.2.1 dX12_switched_76 (by decide) ?_
    refine lv_istore (lv' := [(7, zN 0), (6, zN M), (5, zV (S4 F (ca + ((swF q) + 4)))), (4, zN ts), (3, zN (swF q)), (0, .ref o), (1, zN q), (2, zN b)]) C.1 C.2.1 dX12_switched_77 hl (by decide) rfl (fun ls hl => ?_)
    have loop : ∀ (fu : Nat) (j : Nat) (σ1 : mS) (H : Heap) (ls : Array Slot) (locs : List Loc), va_S (mA o ad) s.heap H locs → isM Z H o ad σ1 → (j + fu = M + 1 ∧ j ≤ M) → (chg [39] [38] σ σ1) → (σ1.1 39 = zI ((ts + 1 + 2 * j : Nat) : Int)) → (∀ a, a < ts → σ1.2.1 38 a = σ.2.1 38 a) → (∀ a, a ≤ 2 * j → σ1.2.1 38 (ts + a) = zI (tbL F ca na q b a)) → (swA F ca sz na q b (M - j) j = swG F ca sz na q b M) → lv_has ls 8 [(7, zN j), (6, zN M), (5, zV (S4 F (ca + (swF q + 4)))), (4, zN ts), (3, zN (swF q)), (0, .ref o), (1, zN q), (2, zN b)] → W p l e (rmk 5) s m args below meth c H locs 0 0 Q (F0 m 79 ls []) := by
      intro fu
      induction fu with
      | zero =>
        intro j σ1 H ls locs hS hM hj hc h39 hold hnew hx hl
        omega
      | succ fu ih_loop =>
        intro j σ1 H ls locs hS hM hj hc h39 hold hnew hx hl
        have hB := hB0.chg hc (by decide) (by decide)
        have h32 : σ1.1 32 = zI (ca : Int) := (hc.1 32 (by decide)).trans h32
        have h33 : σ1.1 33 = zI (sz : Int) := (hc.1 33 (by decide)).trans h33
        have h37 : σ1.1 37 = zI (nc : Int) := (hc.1 37 (by decide)).trans h37
        have hna : ∀ j, j < sz → σ1.2.1 34 j = zI (na j) ∧ -1 ≤ na j ∧ na j ≤ 1200 := fun j hj => by rw [hc.2.1 34 (by decide)]; exact hna0 j hj
        refine lv_iload C.1 C.2.1 dX12_switched_79 (lv_at hl 0 rfl) ?_
        refine lv_iload C.1 C.2.1 dX12_switched_81 (lv_at hl 1 rfl) ?_
        refine y_icmp_ge (tgt := 189) C (a := ((j : Nat) : Int)) (b := ((M : Nat) : Int)) dX12_switched_83 (by decide) (by omega) (fun h83 => ?_) (fun h83 => ?_)
        · refine lv_aload_n C.1 C.2.1 dX12_switched_189 rfl (lv_at hl 5 rfl) ?_
          refine lv_iload_n C.1 C.2.1 dX12_switched_190 rfl (lv_at hl 7 rfl) ?_
          refine lv_iload C.1 C.2.1 dX12_switched_191 (lv_at hl 3 rfl) ?_
          refine lv_iload C.1 C.2.1 dX12_switched_193 (lv_at hl 1 rfl) ?_
          refine z_callV C (As := [zN b, zN ts, zN M]) (rest := []) (c_X12_row l Z hM (nc := nc) ((b : Nat) : Int) ((ts : Nat) : Int) ((M : Nat) : Int) h37 hnc) hM.1 rfl ⟨⟨zw_33_13, zw_1_5, zw_33_10⟩, zd_X12_row⟩ zw_33_11 zw_33_12 ⟨Nat.le_of_ble_eq_true rfl, Nat.le_of_ble_eq_true rfl⟩ ⟨rfl, rfl⟩ rfl hl.1 rfl (Nat.le_of_ble_eq_true rfl) dX12_switched_195 ⟨Nat.zero_le _, Nat.zero_le _⟩ hS (fun _ h => h) (fun v H locs hp hS _ _ => ?_)
          obtain ⟨rfl, hM⟩ := hp
          exact hret _ _ _ _ hS ⟨rfl, (by rw [← hx, show M - j = 0 by omega]; rfl), σ1, hM, hc, (by rw [h39, show j = M by omega]), hold, (by rw [← show j = M by omega]; exact hnew)⟩ dX12_switched_198
        · have hu : M - j = (M - j - 1) + 1 := by omega
          refine lv_aload_n C.1 C.2.1 dX12_switched_86 rfl (lv_at hl 5 rfl) ?_
          refine m_get C hM 38 (v := .ref (ad 38)) (by decide) zw_5_17 rfl rfl dX12_switched_87 ?_
          refine lv_aload_n C.1 C.2.1 dX12_switched_90 rfl (lv_at hl 5 rfl) ?_
          refine m_get C hM 39 (v := .int (σ1.1 39)) (by decide) zw_26_2 rfl rfl dX12_switched_91 ?_
          refine z_re (y := zI ((ts + 1 + 2 * j : Nat) : Int)) h39 ?_
          refine lv_iload_n C.1 C.2.1 dX12_switched_94 rfl (lv_at hl 7 rfl) ?_
          refine lv_sipush (v := zI 170) C.1 C.2.1 dX12_switched_95 (by decide) ?_
          refine y_icmp_ne (tgt := 109) C (a := ((b : Nat) : Int)) (b := 170) dX12_switched_98 (by decide) (by omega) (fun h98 => ?_) (fun h98 => ?_)
          · refine lv_aload_n C.1 C.2.1 dX12_switched_109 rfl (lv_at hl 5 rfl) ?_
            refine lv_iload_n C.1 C.2.1 dX12_switched_110 rfl (lv_at hl 4 rfl) ?_
            refine lv_bipush (v := zI 8) C.1 C.2.1 dX12_switched_111 (by decide) ?_
            refine y_iaddN C (a := swF q) (b := 8) dX12_switched_113 ?_
            refine lv_bipush (v := zI 8) C.1 C.2.1 dX12_switched_114 (by decide) ?_
            refine lv_iload C.1 C.2.1 dX12_switched_116 (lv_at hl 0 rfl) ?_
            refine y_imulN C (a := 8) (b := j) dX12_switched_118 ?_
            refine y_iaddN C (a := (swF q) + 8) (b := 8 * j) dX12_switched_119 ?_
            refine z_readV C (As := [zN (((swF q) + 8) + (8 * j))]) (rest := [zN (ts + 1 + 2 * j), .ref (ad 38)]) (c_X12_codeFour l Z hM hB h32 (((swF q) + 8) + (8 * j)) rfl (by omega)) hM.1 rfl ⟨⟨zw_32_23, zw_1_5, zw_32_20⟩, zd_X12_codeFour⟩ zw_32_21 zw_32_22 ⟨Nat.le_of_ble_eq_true rfl, Nat.le_of_ble_eq_true rfl⟩ ⟨rfl, rfl⟩ rfl hl.1 rfl (Nat.le_of_ble_eq_true rfl) dX12_switched_120 ⟨Nat.zero_le _, Nat.zero_le _⟩ hS (fun locs hS => ?_)
            have := S4_rg hB.1 (ca + (((swF q) + 8) + (8 * j)))
            refine m_ast C hM 38 (by decide) (ts + 1 + 2 * j) (t := ((ts + 1 + 2 * j : Nat) : Int)) rfl (by show _ < 40000; omega) hS dX12_switched_123 (fun H locs hM hS => ?_)
            refine lv_aload_n C.1 C.2.1 dX12_switched_124 rfl (lv_at hl 5 rfl) ?_
            refine m_get C hM 38 (v := .ref (ad 38)) (by decide) zw_5_17 rfl rfl dX12_switched_125 ?_
            refine lv_aload_n C.1 C.2.1 dX12_switched_128 rfl (lv_at hl 5 rfl) ?_
            refine m_get C hM 39 (v := .int ((sf σ1 38 (upd (σ1.2.1 38) (ts + 1 + 2 * j) (zI (S4 F (ca + (((swF q) + 8) + (8 * j))))))).1 39)) (by decide) zw_26_2 rfl rfl dX12_switched_129 ?_
            refine z_re (y := zI ((ts + 1 + 2 * j : Nat) : Int)) h39 ?_
            refine lv_iconst (v := zI 1) C.1 C.2.1 dX12_switched_132 (by decide) ?_
            refine y_iaddN C (a := ts + 1 + 2 * j) (b := 1) dX12_switched_133 ?_
            refine lv_aload_n C.1 C.2.1 dX12_switched_134 rfl (lv_at hl 5 rfl) ?_
            refine lv_iload_n C.1 C.2.1 dX12_switched_135 rfl (lv_at hl 6 rfl) ?_
            refine lv_aload_n C.1 C.2.1 dX12_switched_136 rfl (lv_at hl 5 rfl) ?_
            refine lv_iload_n C.1 C.2.1 dX12_switched_137 rfl (lv_at hl 7 rfl) ?_
            refine lv_sipush (v := zI 170) C.1 C.2.1 dX12_switched_138 (by decide) ?_
            refine y_icmp_ne (tgt := 156) C (a := ((b : Nat) : Int)) (b := 170) dX12_switched_141 (by decide) (by omega) (fun h141 => ?_) (fun h141 => ?_)
            · refine lv_iload_n C.1 C.2.1 dX12_switched_156 rfl (lv_at hl 4 rfl) ?_
              refine lv_bipush (v := zI 12) C.1 C.2.1 dX12_switched_157 (by decide) ?_
              refine y_iaddN C (a := swF q) (b := 12) dX12_switched_159 ?_
              refine lv_bipush (v := zI 8) C.1 C.2.1 dX12_switched_160 (by decide) ?_
              refine lv_iload C.1 C.2.1 dX12_switched_162 (lv_at hl 0 rfl) ?_
              refine y_imulN C (a := 8) (b := j) dX12_switched_164 ?_
              refine y_iaddN C (a := (swF q) + 12) (b := 8 * j) dX12_switched_165 ?_
              refine z_readV C (As := [zN (((swF q) + 12) + (8 * j))]) (rest := [zN q, .ref o, zN ((ts + 1 + 2 * j) + 1), .ref (ad 38)]) (c_X12_codeFour l Z hM hB h32 (((swF q) + 12) + (8 * j)) rfl (by omega)) hM.1 rfl ⟨⟨zw_32_23, zw_1_5, zw_32_20⟩, zd_X12_codeFour⟩ zw_32_21 zw_32_22 ⟨Nat.le_of_ble_eq_true rfl, Nat.le_of_ble_eq_true rfl⟩ ⟨rfl, rfl⟩ rfl hl.1 rfl (Nat.le_of_ble_eq_true rfl) dX12_switched_166 ⟨Nat.zero_le _, Nat.zero_le _⟩ hS (fun locs hS => ?_)
              have := S4_rg hB.1 (ca + (((swF q) + 12) + (8 * j)))
              refine z_callVX C (As := [zN q, zV (S4 F (ca + (((swF q) + 12) + (8 * j))))]) (rest := [zN ((ts + 1 + 2 * j) + 1), .ref (ad 38)]) (c_X12_pointedAt l Z hM h32 h33 hca hsz hna q (S4 F (ca + (((swF q) + 12) + (8 * j)))) hq (by omega)) hM.1 rfl ⟨⟨zw_34_17, zw_1_5, zw_34_14⟩, zd_X12_pointedAt⟩ zw_34_15 zw_34_16 ⟨Nat.le_of_ble_eq_true rfl, Nat.le_of_ble_eq_true rfl⟩ ⟨rfl, rfl⟩ rfl hl.1 rfl (Nat.le_of_ble_eq_true rfl) dX12_switched_169 ⟨Nat.zero_le _, Nat.zero_le _⟩ hS (fun _ h => h) (fun H9 locs9 q9 ce9 hp9 hS9 _ _ g1 g2 g3 => ?_) (fun v H locs hp hS _ _ => ?_)
              · exact hth _ _ _ _ _ _ _ hS9 (⟨(by rw [← hx, hu]; exact swA_f (by rw [(swT_b (show b ≠ 170 by omega))]; exact hp9.1)), mBrk_up (chg_sf (by decide) (hc.mono (by decide) (by decide))) hp9.2 (by decide) (by decide)⟩) g1 g2 g3
              obtain ⟨hpk169, rfl, hM⟩ := hp
              refine m_ast C hM 38 (by decide) ((ts + 1 + 2 * j) + 1) (t := (((ts + 1 + 2 * j) + 1 : Nat) : Int)) rfl (by show _ < 40000; omega) hS dX12_switched_172 (fun H locs hM hS => ?_)
              refine lv_aload_n C.1 C.2.1 dX12_switched_173 rfl (lv_at hl 5 rfl) ?_
              refine lv_dup C.1 C.2.1 dX12_switched_174 rfl ?_
              refine m_get C hM 39 (v := .int ((sf (sf σ1 38 (upd (σ1.2.1 38) (ts + 1 + 2 * j) (zI (S4 F (ca + (((swF q) + 8) + (8 * j))))))) 38 (upd ((sf σ1 38 (upd (σ1.2.1 38) (ts + 1 + 2 * j) (zI (S4 F (ca + (((swF q) + 8) + (8 * j))))))).2.1 38) ((ts + 1 + 2 * j) + 1) (zI (na ((q : Int) + S4 F (ca + (((swF q) + 12) + (8 * j)))).toNat)))).1 39)) (by decide) zw_26_2 rfl rfl dX12_switched_175 ?_
              refine z_re (y := zI ((ts + 1 + 2 * j : Nat) : Int)) h39 ?_
              refine lv_iconst (v := zI 2) C.1 C.2.1 dX12_switched_178 (by decide) ?_
              refine y_iaddN C (a := ts + 1 + 2 * j) (b := 2) dX12_switched_179 ?_
              refine m_put C hM 39 (sx (sf (sf σ1 38 (upd (σ1.2.1 38) (ts + 1 + 2 * j) (zI (S4 F (ca + (((swF q) + 8) + (8 * j))))))) 38 (upd ((sf σ1 38 (upd (σ1.2.1 38) (ts + 1 + 2 * j) (zI (S4 F (ca + (((swF q) + 8) + (8 * j))))))).2.1 38) ((ts + 1 + 2 * j) + 1) (zI (na ((q : Int) + S4 F (ca + (((swF q) + 12) + (8 * j)))).toNat)))) 39 (zI (((ts + 1 + 2 * j) + 2 : Nat) : Int))) rfl rfl (by decide) zw_26_2 rfl rfl rfl rfl hS dX12_switched_180 (fun H locs hM hS => ?_)
              refine lv_iinc (v := zI ((j + 1 : Nat) : Int)) (lv' := [(7, zN (j + 1)), (6, zN M), (5, zV (S4 F (ca + (swF q + 4)))), (4, zN ts), (3, zN (swF q)), (0, .ref o), (1, zN q), (2, zN b)]) C.1 C.2.1 dX12_switched_183 hl (k := 0) rfl (zI_add _ _) (by decide) rfl (fun ls hl => ?_)
              refine lv_goto (tgt := 79) C.1 C.2.1 dX12_switched_186 (by decide) ?_
              exact ih_loop (j + 1) _ _ ls _ hS hM (by omega) (chg_sx (by decide) (chg_sf (by decide) (chg_sf (by decide) hc))) (zI_c (by omega)) (fun a ha => (upd_ne (by omega)).trans ((upd_ne (by omega)).trans (hold a ha))) (le_2 hnew (by unfold tbL; rw [if_neg (by omega), if_pos (by omega), if_neg (by omega), show (2 * j + 1) / 2 = j by omega]) (by unfold tbL; rw [if_neg (by omega), if_neg (by omega), show (2 * j + 2) / 2 - 1 = j by omega, (swT_b (show b ≠ 170 by omega))])) (by rw [← hx, hu, swA_s (by rw [(swT_b (show b ≠ 170 by omega))]; exact hpk169)]; rw [show M - (j + 1) = M - j - 1 by omega]) hl
            · exact False.elim (by omega)
          · exact False.elim (by omega)
    exact loop (M + 1) 0 _ _ ls _ hS hM (by omega) (chg_sx (by decide) (chg_sf (by decide) chg.rf)) (zI_c (by omega)) (fun a ha => upd_ne (by omega)) (fun a ha => by rw [show a = 0 by omega]; exact upd_2) (by unfold swG; rw [if_pos hpk26]; rfl) hl
  · refine lv_aload_n C.1 C.2.1 dX12_switched_56 rfl (lv_at hl 3 rfl) ?_
    refine lv_iload_n C.1 C.2.1 dX12_switched_57 rfl (lv_at hl 2 rfl) ?_
    refine lv_bipush (v := zI 8) C.1 C.2.1 dX12_switched_58 (by decide) ?_
    refine y_iaddN C (a := swF q) (b := 8) dX12_switched_60 ?_
    refine z_readV C (As := [zN ((swF q) + 8)]) (rest := []) (c_X12_codeFour l Z hM hB h32 ((swF q) + 8) rfl (by omega)) hM.1 rfl ⟨⟨zw_32_23, zw_1_5, zw_32_20⟩, zd_X12_codeFour⟩ zw_32_21 zw_32_22 ⟨Nat.le_of_ble_eq_true rfl, Nat.le_of_ble_eq_true rfl⟩ ⟨rfl, rfl⟩ rfl hl.1 rfl (Nat.le_of_ble_eq_true rfl) dX12_switched_61 ⟨Nat.zero_le _, Nat.zero_le _⟩ hS (fun locs hS => ?_)
    have := S4_rg hB.1 (ca + ((swF q) + 8))
    refine lv_iload C.1 C.2.1 dX12_switched_64 (lv_at hl 0 rfl) ?_
    refine y_isub C (a := S4 F (ca + ((swF q) + 8))) (b := S4 F (ca + ((swF q) + 4))) dX12_switched_66 ?_
    refine lv_iconst (v := zI 1) C.1 C.2.1 dX12_switched_67 (by decide) ?_
    refine y_iadd C (a := (S4 F (ca + ((swF q) + 8))) - (S4 F (ca + ((swF q) + 4)))) (b := 1) dX12_switched_68 ?_
    refine lv_goto (tgt := 74) C.1 C.2.1 dX12_switched_69 (by decide) ?_
    refine z_re (y := zI ((M : Nat) : Int)) (zI_c (by omega)) ?_
    refine lv_istore (lv' := [(6, zN M), (5, zV (S4 F (ca + ((swF q) + 4)))), (4, zN ts), (3, zN (swF q)), (0, .ref o), (1, zN q), (2, zN b)]) C.1 C.2.1 dX12_switched_74 hl (by decide) rfl (fun ls hl => ?_)
    refine lv_iconst (v := zI 0) C.1 C.2.1 dX12_switched_76 (by decide) ?_
    refine lv_istore (lv' := [(7, zN 0), (6, zN M), (5, zV (S4 F (ca + ((swF q) + 4)))), (4, zN ts), (3, zN (swF q)), (0, .ref o), (1, zN q), (2, zN b)]) C.1 C.2.1 dX12_switched_77 hl (by decide) rfl (fun ls hl => ?_)
    have loop : ∀ (fu : Nat) (j : Nat) (σ1 : mS) (H : Heap) (ls : Array Slot) (locs : List Loc), va_S (mA o ad) s.heap H locs → isM Z H o ad σ1 → (j + fu = M + 1 ∧ j ≤ M) → (chg [39] [38] σ σ1) → (σ1.1 39 = zI ((ts + 1 + 2 * j : Nat) : Int)) → (∀ a, a < ts → σ1.2.1 38 a = σ.2.1 38 a) → (∀ a, a ≤ 2 * j → σ1.2.1 38 (ts + a) = zI (tbL F ca na q b a)) → (swA F ca sz na q b (M - j) j = swG F ca sz na q b M) → lv_has ls 8 [(7, zN j), (6, zN M), (5, zV (S4 F (ca + (swF q + 4)))), (4, zN ts), (3, zN (swF q)), (0, .ref o), (1, zN q), (2, zN b)] → W p l e (rmk 5) s m args below meth c H locs 0 0 Q (F0 m 79 ls []) := by
      intro fu
      induction fu with
      | zero =>
        intro j σ1 H ls locs hS hM hj hc h39 hold hnew hx hl
        omega
      | succ fu ih_loop =>
        intro j σ1 H ls locs hS hM hj hc h39 hold hnew hx hl
        have hB := hB0.chg hc (by decide) (by decide)
        have h32 : σ1.1 32 = zI (ca : Int) := (hc.1 32 (by decide)).trans h32
        have h33 : σ1.1 33 = zI (sz : Int) := (hc.1 33 (by decide)).trans h33
        have h37 : σ1.1 37 = zI (nc : Int) := (hc.1 37 (by decide)).trans h37
        have hna : ∀ j, j < sz → σ1.2.1 34 j = zI (na j) ∧ -1 ≤ na j ∧ na j ≤ 1200 := fun j hj => by rw [hc.2.1 34 (by decide)]; exact hna0 j hj
        refine lv_iload C.1 C.2.1 dX12_switched_79 (lv_at hl 0 rfl) ?_
        refine lv_iload C.1 C.2.1 dX12_switched_81 (lv_at hl 1 rfl) ?_
        refine y_icmp_ge (tgt := 189) C (a := ((j : Nat) : Int)) (b := ((M : Nat) : Int)) dX12_switched_83 (by decide) (by omega) (fun h83 => ?_) (fun h83 => ?_)
        · refine lv_aload_n C.1 C.2.1 dX12_switched_189 rfl (lv_at hl 5 rfl) ?_
          refine lv_iload_n C.1 C.2.1 dX12_switched_190 rfl (lv_at hl 7 rfl) ?_
          refine lv_iload C.1 C.2.1 dX12_switched_191 (lv_at hl 3 rfl) ?_
          refine lv_iload C.1 C.2.1 dX12_switched_193 (lv_at hl 1 rfl) ?_
          refine z_callV C (As := [zN b, zN ts, zN M]) (rest := []) (c_X12_row l Z hM (nc := nc) ((b : Nat) : Int) ((ts : Nat) : Int) ((M : Nat) : Int) h37 hnc) hM.1 rfl ⟨⟨zw_33_13, zw_1_5, zw_33_10⟩, zd_X12_row⟩ zw_33_11 zw_33_12 ⟨Nat.le_of_ble_eq_true rfl, Nat.le_of_ble_eq_true rfl⟩ ⟨rfl, rfl⟩ rfl hl.1 rfl (Nat.le_of_ble_eq_true rfl) dX12_switched_195 ⟨Nat.zero_le _, Nat.zero_le _⟩ hS (fun _ h => h) (fun v H locs hp hS _ _ => ?_)
          obtain ⟨rfl, hM⟩ := hp
          exact hret _ _ _ _ hS ⟨rfl, (by rw [← hx, show M - j = 0 by omega]; rfl), σ1, hM, hc, (by rw [h39, show j = M by omega]), hold, (by rw [← show j = M by omega]; exact hnew)⟩ dX12_switched_198
        · have hu : M - j = (M - j - 1) + 1 := by omega
          refine lv_aload_n C.1 C.2.1 dX12_switched_86 rfl (lv_at hl 5 rfl) ?_
          refine m_get C hM 38 (v := .ref (ad 38)) (by decide) zw_5_17 rfl rfl dX12_switched_87 ?_
          refine lv_aload_n C.1 C.2.1 dX12_switched_90 rfl (lv_at hl 5 rfl) ?_
          refine m_get C hM 39 (v := .int (σ1.1 39)) (by decide) zw_26_2 rfl rfl dX12_switched_91 ?_
          refine z_re (y := zI ((ts + 1 + 2 * j : Nat) : Int)) h39 ?_
          refine lv_iload_n C.1 C.2.1 dX12_switched_94 rfl (lv_at hl 7 rfl) ?_
          refine lv_sipush (v := zI 170) C.1 C.2.1 dX12_switched_95 (by decide) ?_
          refine y_icmp_ne (tgt := 109) C (a := ((b : Nat) : Int)) (b := 170) dX12_switched_98 (by decide) (by omega) (fun h98 => ?_) (fun h98 => ?_)
          · exact False.elim (by omega)
          · refine lv_iload C.1 C.2.1 dX12_switched_101 (lv_at hl 2 rfl) ?_
            refine lv_iload C.1 C.2.1 dX12_switched_103 (lv_at hl 0 rfl) ?_
            refine y_iadd C (a := S4 F (ca + (swF q + 4))) (b := ((j : Nat) : Int)) dX12_switched_105 ?_
            refine lv_goto (tgt := 123) C.1 C.2.1 dX12_switched_106 (by decide) ?_
            refine m_ast C hM 38 (by decide) (ts + 1 + 2 * j) (t := ((ts + 1 + 2 * j : Nat) : Int)) rfl (by show _ < 40000; omega) hS dX12_switched_123 (fun H locs hM hS => ?_)
            refine lv_aload_n C.1 C.2.1 dX12_switched_124 rfl (lv_at hl 5 rfl) ?_
            refine m_get C hM 38 (v := .ref (ad 38)) (by decide) zw_5_17 rfl rfl dX12_switched_125 ?_
            refine lv_aload_n C.1 C.2.1 dX12_switched_128 rfl (lv_at hl 5 rfl) ?_
            refine m_get C hM 39 (v := .int ((sf σ1 38 (upd (σ1.2.1 38) (ts + 1 + 2 * j) (zI ((S4 F (ca + (swF q + 4))) + ((j : Nat) : Int))))).1 39)) (by decide) zw_26_2 rfl rfl dX12_switched_129 ?_
            refine z_re (y := zI ((ts + 1 + 2 * j : Nat) : Int)) h39 ?_
            refine lv_iconst (v := zI 1) C.1 C.2.1 dX12_switched_132 (by decide) ?_
            refine y_iaddN C (a := ts + 1 + 2 * j) (b := 1) dX12_switched_133 ?_
            refine lv_aload_n C.1 C.2.1 dX12_switched_134 rfl (lv_at hl 5 rfl) ?_
            refine lv_iload_n C.1 C.2.1 dX12_switched_135 rfl (lv_at hl 6 rfl) ?_
            refine lv_aload_n C.1 C.2.1 dX12_switched_136 rfl (lv_at hl 5 rfl) ?_
            refine lv_iload_n C.1 C.2.1 dX12_switched_137 rfl (lv_at hl 7 rfl) ?_
            refine lv_sipush (v := zI 170) C.1 C.2.1 dX12_switched_138 (by decide) ?_
            refine y_icmp_ne (tgt := 156) C (a := ((b : Nat) : Int)) (b := 170) dX12_switched_141 (by decide) (by omega) (fun h141 => ?_) (fun h141 => ?_)
            · exact False.elim (by omega)
            · refine lv_iload_n C.1 C.2.1 dX12_switched_144 rfl (lv_at hl 4 rfl) ?_
              refine lv_bipush (v := zI 12) C.1 C.2.1 dX12_switched_145 (by decide) ?_
              refine y_iaddN C (a := swF q) (b := 12) dX12_switched_147 ?_
              refine lv_iconst (v := zI 4) C.1 C.2.1 dX12_switched_148 (by decide) ?_
              refine lv_iload C.1 C.2.1 dX12_switched_149 (lv_at hl 0 rfl) ?_
              refine y_imulN C (a := 4) (b := j) dX12_switched_151 ?_
              refine y_iaddN C (a := (swF q) + 12) (b := 4 * j) dX12_switched_152 ?_
              refine lv_goto (tgt := 166) C.1 C.2.1 dX12_switched_153 (by decide) ?_
              refine z_readV C (As := [zN (((swF q) + 12) + (4 * j))]) (rest := [zN q, .ref o, zN ((ts + 1 + 2 * j) + 1), .ref (ad 38)]) (c_X12_codeFour l Z hM hB h32 (((swF q) + 12) + (4 * j)) rfl (by omega)) hM.1 rfl ⟨⟨zw_32_23, zw_1_5, zw_32_20⟩, zd_X12_codeFour⟩ zw_32_21 zw_32_22 ⟨Nat.le_of_ble_eq_true rfl, Nat.le_of_ble_eq_true rfl⟩ ⟨rfl, rfl⟩ rfl hl.1 rfl (Nat.le_of_ble_eq_true rfl) dX12_switched_166 ⟨Nat.zero_le _, Nat.zero_le _⟩ hS (fun locs hS => ?_)
              have := S4_rg hB.1 (ca + (((swF q) + 12) + (4 * j)))
              refine z_callVX C (As := [zN q, zV (S4 F (ca + (((swF q) + 12) + (4 * j))))]) (rest := [zN ((ts + 1 + 2 * j) + 1), .ref (ad 38)]) (c_X12_pointedAt l Z hM h32 h33 hca hsz hna q (S4 F (ca + (((swF q) + 12) + (4 * j)))) hq (by omega)) hM.1 rfl ⟨⟨zw_34_17, zw_1_5, zw_34_14⟩, zd_X12_pointedAt⟩ zw_34_15 zw_34_16 ⟨Nat.le_of_ble_eq_true rfl, Nat.le_of_ble_eq_true rfl⟩ ⟨rfl, rfl⟩ rfl hl.1 rfl (Nat.le_of_ble_eq_true rfl) dX12_switched_169 ⟨Nat.zero_le _, Nat.zero_le _⟩ hS (fun _ h => h) (fun H9 locs9 q9 ce9 hp9 hS9 _ _ g1 g2 g3 => ?_) (fun v H locs hp hS _ _ => ?_)
              · exact hth _ _ _ _ _ _ _ hS9 (⟨(by rw [← hx, hu]; exact swA_f (by rw [(show swT q b j = swF q + 12 + 4 * j from if_pos (by omega))]; exact hp9.1)), mBrk_up (chg_sf (by decide) (hc.mono (by decide) (by decide))) hp9.2 (by decide) (by decide)⟩) g1 g2 g3
              obtain ⟨hpk169, rfl, hM⟩ := hp
              refine m_ast C hM 38 (by decide) ((ts + 1 + 2 * j) + 1) (t := (((ts + 1 + 2 * j) + 1 : Nat) : Int)) rfl (by show _ < 40000; omega) hS dX12_switched_172 (fun H locs hM hS => ?_)
              refine lv_aload_n C.1 C.2.1 dX12_switched_173 rfl (lv_at hl 5 rfl) ?_
              refine lv_dup C.1 C.2.1 dX12_switched_174 rfl ?_
              refine m_get C hM 39 (v := .int ((sf (sf σ1 38 (upd (σ1.2.1 38) (ts + 1 + 2 * j) (zI ((S4 F (ca + (swF q + 4))) + ((j : Nat) : Int))))) 38 (upd ((sf σ1 38 (upd (σ1.2.1 38) (ts + 1 + 2 * j) (zI ((S4 F (ca + (swF q + 4))) + ((j : Nat) : Int))))).2.1 38) ((ts + 1 + 2 * j) + 1) (zI (na ((q : Int) + S4 F (ca + (((swF q) + 12) + (4 * j)))).toNat)))).1 39)) (by decide) zw_26_2 rfl rfl dX12_switched_175 ?_
              refine z_re (y := zI ((ts + 1 + 2 * j : Nat) : Int)) h39 ?_
              refine lv_iconst (v := zI 2) C.1 C.2.1 dX12_switched_178 (by decide) ?_
              refine y_iaddN C (a := ts + 1 + 2 * j) (b := 2) dX12_switched_179 ?_
              refine m_put C hM 39 (sx (sf (sf σ1 38 (upd (σ1.2.1 38) (ts + 1 + 2 * j) (zI ((S4 F (ca + (swF q + 4))) + ((j : Nat) : Int))))) 38 (upd ((sf σ1 38 (upd (σ1.2.1 38) (ts + 1 + 2 * j) (zI ((S4 F (ca + (swF q + 4))) + ((j : Nat) : Int))))).2.1 38) ((ts + 1 + 2 * j) + 1) (zI (na ((q : Int) + S4 F (ca + (((swF q) + 12) + (4 * j)))).toNat)))) 39 (zI (((ts + 1 + 2 * j) + 2 : Nat) : Int))) rfl rfl (by decide) zw_26_2 rfl rfl rfl rfl hS dX12_switched_180 (fun H locs hM hS => ?_)
              refine lv_iinc (v := zI ((j + 1 : Nat) : Int)) (lv' := [(7, zN (j + 1)), (6, zN M), (5, zV (S4 F (ca + (swF q + 4)))), (4, zN ts), (3, zN (swF q)), (0, .ref o), (1, zN q), (2, zN b)]) C.1 C.2.1 dX12_switched_183 hl (k := 0) rfl (zI_add _ _) (by decide) rfl (fun ls hl => ?_)
              refine lv_goto (tgt := 79) C.1 C.2.1 dX12_switched_186 (by decide) ?_
              exact ih_loop (j + 1) _ _ ls _ hS hM (by omega) (chg_sx (by decide) (chg_sf (by decide) (chg_sf (by decide) hc))) (zI_c (by omega)) (fun a ha => (upd_ne (by omega)).trans ((upd_ne (by omega)).trans (hold a ha))) (le_2 hnew (by unfold tbL; rw [if_neg (by omega), if_pos (by omega), if_pos (by omega), show (2 * j + 1) / 2 = j by omega]) (by unfold tbL; rw [if_neg (by omega), if_neg (by omega), show (2 * j + 2) / 2 - 1 = j by omega, (show swT q b j = swF q + 12 + 4 * j from if_pos (by omega))])) (by rw [← hx, hu, swA_s (by rw [(show swT q b j = swF q + 12 + 4 * j from if_pos (by omega))]; exact hpk169)]; rw [show M - (j + 1) = M - j - 1 by omega]) hl
    exact loop (M + 1) 0 _ _ ls _ hS hM (by omega) (chg_sx (by decide) (chg_sf (by decide) chg.rf)) (zI_c (by omega)) (fun a ha => upd_ne (by omega)) (fun a ha => by rw [show a = 0 by omega]; exact upd_2) (by unfold swG; rw [if_pos hpk26]; rfl) hl
