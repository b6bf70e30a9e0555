/-! the model: pointing -/
theorem stF_lt {F : Nat → Nat} {ca sz N : Nat} (h : isWh F ca sz N) : ∀ b a, a < b → b ≤ N → stF F ca sz a < stF F ca sz b := by
  intro b
  induction b with
  | zero => intro a h1 _; omega
  | succ b ih =>
    intro a h1 h2
    have h3 := (h.2 b (by omega)).2
    rw [stF_s]
    by_cases e : a = b
    · subst e; omega
    · have := ih a (by omega) (by omega); omega
theorem nbR_at {F : Nat → Nat} {ca sz N : Nat} (h : isWh F ca sz N) : ∀ i k, k < i → i ≤ N → nbR F ca sz i (stF F ca sz k) = (k : Int) := by
  intro i
  induction i with
  | zero => intro k h1 _; omega
  | succ i ih =>
    intro k h1 h2
    by_cases e : k = i
    · subst e; exact nbR_p
    · have := stF_lt h i k (by omega) (by omega)
      rw [nbR_n (by omega)]
      exact ih k (by omega) (by omega)
theorem nbR_pos {F : Nat → Nat} {ca sz : Nat} : ∀ i j, 0 ≤ nbR F ca sz i j → ∃ k, k < i ∧ nbR F ca sz i j = (k : Int) ∧ j = stF F ca sz k := by
  intro i
  induction i with
  | zero => intro j h; exact absurd h (by show ¬ (0 : Int) ≤ -1; omega)
  | succ i ih =>
    intro j h
    by_cases e : j = stF F ca sz i
    · exact ⟨i, by omega, by rw [e]; exact nbR_p, e⟩
    · rw [nbR_n e] at h ⊢
      obtain ⟨k, h1, h2, h3⟩ := ih j h
      exact ⟨k, by omega, h2, h3⟩
/-- how many instructions the code has -/
def nWL (F : Nat → Nat) (ca sz : Nat) : Nat → Nat → Nat
  | 0, _ => 0
  | c + 1, q => if q < sz then (if 0 < spR F ca sz q then nWL F ca sz c (q + (spR F ca sz q).toNat) + 1 else 0) else 0
def nWh (F : Nat → Nat) (ca sz : Nat) : Nat := nWL F ca sz (sz + 1) 0
theorem isWh_n {F : Nat → Nat} {ca sz N : Nat} (h : isWh F ca sz N) : N = nWh F ca sz := by
  have hN := stF_le h.2 N (Nat.le_refl _)
  rw [h.1] at hN
  have key : ∀ c k, k ≤ N → N < c + k → nWL F ca sz c (stF F ca sz k) = N - k := by
    intro c
    induction c with
    | zero => intro k h1 h2; omega
    | succ c ih =>
      intro k h1 h2
      unfold nWL
      by_cases e : k = N
      · subst e
        rw [h.1, if_neg (by omega)]
        omega
      · obtain ⟨g1, g2⟩ := h.2 k (by omega)
        rw [if_pos g1, if_pos g2, ← stF_s, ih (k + 1) (by omega) (by omega)]
        omega
  have := key (sz + 1) 0 (Nat.zero_le _) (by omega)
  unfold nWh
  exact (by rw [show nWL F ca sz (sz + 1) 0 = N - 0 from this]; rfl)
def g16 (F tb mt : Nat → Nat) (cl nf nm ca sz ml N k : Nat) : Option Nat := if insOk F tb mt cl nf nm ca sz ml (nbR F ca sz N) (stF F ca sz k) (F (ca + stF F ca sz k)) = true then none else some (ca + stF F ca sz k)
def x16 (F tb mt : Nat → Nat) (cl nf nm ca sz ml N ch cn : Nat) : Option Nat := (fst1 (g16 F tb mt cl nf nm ca sz ml N) N 0).or (fst1 (fun k => ctR F tb (U2 F 8) sz (nbR F ca sz N) (ch + 8 * k)) cn 0)
/-- the rows of the code at ca, from row b on -/
def rowsIs (F tb mt : Nat → Nat) (cl nf nm ca sz ml N : Nat) (R T : Nat → Int32) (b K te : Nat) : Prop := ∀ k, k < K → rowIs F tb mt cl nf nm ca sz ml (nbR F ca sz N) (stF F ca sz k) (F (ca + stF F ca sz k)) R T (3 * (b + k)) te
theorem rowsIs.mono {F tb mt : Nat → Nat} {cl nf nm ca sz ml N : Nat} {R T R' T' : Nat → Int32} {b K te te' : Nat} (h : rowsIs F tb mt cl nf nm ca sz ml N R T b K te) (hR : ∀ a, a < 3 * (b + K) → R' a = R a) (hT : ∀ a, a < te → T' a = T a) (ht : te ≤ te') : rowsIs F tb mt cl nf nm ca sz ml N R' T' b K te' :=
  fun k hk => (h k hk).mono (fun a ha => hR a (by omega)) hT ht
theorem rowsIs.snoc {F tb mt : Nat → Nat} {cl nf nm ca sz ml N : Nat} {R T R' T' : Nat → Int32} {b K te te' : Nat} (h : rowsIs F tb mt cl nf nm ca sz ml N R T b K te) (hR : ∀ a, a < 3 * (b + K) → R' a = R a) (hT : ∀ a, a < te → T' a = T a) (ht : te ≤ te') (g : rowIs F tb mt cl nf nm ca sz ml (nbR F ca sz N) (stF F ca sz K) (F (ca + stF F ca sz K)) R' T' (3 * (b + K)) te') : rowsIs F tb mt cl nf nm ca sz ml N R' T' b (K + 1) te' := by
  intro k hk
  by_cases e : k = K
  · subst e; exact g
  · exact (h.mono hR hT ht) k (by omega)

theorem mLay.chg {xs fs : List Nat} {σ σ' : mS} {F : Nat → Nat} {n cl nf nm fa last : Nat} {tb mt : Nat → Nat} (hL : mLay σ F n tb cl nf nm mt fa last) (h : chg xs fs σ σ') (hx : ∀ k ∈ [10, 16, 17, 18, 21, 24], k ∉ xs) (hf : ∀ k ∈ [11, 12, 13, 14, 15, 20, 22, 23], k ∉ fs) : mLay σ' F n tb cl nf nm mt fa last := by
  have e : ∀ k ∈ [10, 16, 17, 18, 21, 24], σ'.1 k = σ.1 k := fun k hk => h.1 k (hx k hk)
  have f : ∀ k ∈ [11, 12, 13, 14, 15, 20, 22, 23], σ'.2.1 k = σ.2.1 k := fun k hk => h.2.1 k (hf k hk)
  obtain ⟨a1, a2, a3, ⟨k, a4⟩, a5, a6, a7, a8, a9, a10, a11, a12, a13, a14, a15, a16, a17⟩ := hL
  refine ⟨(e 10 (by decide)).trans a1, a2, a3, ⟨k, poolIn_same a4 (f 11 (by decide)) (f 12 (by decide)) (f 13 (by decide)) (f 14 (by decide)) (h.2.2 (hf 15 (by decide)))⟩, (e 16 (by decide)).trans a5, a6, (e 17 (by decide)).trans a7, (e 18 (by decide)).trans a8, a9, a10, fun i hi => ?_, (e 21 (by decide)).trans a12, a13, fun j hj => ?_, a15, (e 24 (by decide)).trans a16, a17⟩
  · obtain ⟨b1, b2, b3⟩ := a11 i hi
    exact ⟨(congrFun (f 20 (by decide)) i).trans b1, b2, fun j hj => ⟨(congrFun (f 22 (by decide)) _).trans (b3 j hj).1, (congrFun (f 23 (by decide)) _).trans (b3 j hj).2.1, (b3 j hj).2.2⟩⟩
  · exact ⟨(congrFun (f 22 (by decide)) _).trans (a14 j hj).1, (congrFun (f 23 (by decide)) _).trans (a14 j hj).2.1, (a14 j hj).2.2⟩

set_option maxHeartbeats 4000000 in
set_option maxRecDepth 20000 in
theorem c_X12_pointing (l : Launch) (Z : zT) {H : Heap} {o : Nat} {ad : Nat → Nat} {σ : mS} (hM : isM Z H o ad σ) {F : Nat → Nat} {n : Nat} (hB : mSrc σ F n) {cl nf nm fa last : Nat} {tb mt : Nat → Nat} (hL : mLay σ F n tb cl nf nm mt fa last) (hx6 : x6 F tb (U2 F 8) = none) (hx8 : x8 F tb (U2 F 8) cl = none) (hx9 : x9 F tb (U2 F 8) mt (nf + nm) fa = none) {ca sz ml nc ts ch cn i : Nat} (hi : i < 24) (h26 : σ.2.1 26 i = zI (ml : Int)) (h27 : σ.2.1 27 i = zI (ca : Int)) (h28 : σ.2.1 28 i = zI (sz : Int)) (h29 : σ.2.1 29 i = zI (ch : Int)) (h30 : σ.2.1 30 i = zI (cn : Int)) (hcs : ca + sz ≤ n) (hsz : sz ≤ 1200) (hml : ml ≤ 24) (hch : ch + 8 * cn ≤ n) (h15 : x15 F ca sz = none) (h37 : σ.1 37 = zI (nc : Int)) (hnc : nc + 1200 ≤ 28800) (h39 : σ.1 39 = zI (ts : Int)) (hts : ts + 2400 ≤ 40000) : zX l Z yX12_pointing cX12_pointing 3 none (rmk 8) [.ref o, zN i] H (mA o ad) 0 0 (fun v H' => v = none ∧ x16 F tb mt cl nf nm ca sz ml (nWh F ca sz) ch cn = none ∧ ∃ (σ' : mS) (te : Nat), isM Z H' o ad σ' ∧ chg [32, 33, 35, 37, 39, 42] [34, 36, 38, 40, 41] σ σ' ∧ isWh F ca sz (nWh F ca sz) ∧ σ'.1 37 = zI ((nc + nWh F ca sz : Nat) : Int) ∧ σ'.1 39 = zI (te : Int) ∧ ts ≤ te ∧ te ≤ ts + sz ∧ (∀ a, a < 3 * nc → σ'.2.1 36 a = σ.2.1 36 a) ∧ (∀ a, a < ts → σ'.2.1 38 a = σ.2.1 38 a) ∧ rowsIs F tb mt cl nf nm ca sz ml (nWh F ca sz) (σ'.2.1 36) (σ'.2.1 38) nc (nWh F ca sz) te ∧ σ'.2.1 40 = upd (σ.2.1 40) i (zI (nc : Int)) ∧ σ'.2.1 41 = upd (σ.2.1 41) i (zI (nWh F ca sz : Int))) (fun H' => ∃ w9 : Nat, x16 F tb mt cl nf nm ca sz ml (nWh F ca sz) ch cn = some w9 ∧ mBrk Z o ad [4, 5, 32, 33, 35, 37, 39, 42] [34, 36, 38, 40, 41] σ 16 w9 H') := by
  have hB0 := hB
  have hL0 := hL
  have hn := hB.2.2.2
  refine zX.introV (own := RX12) ⟨by decide, rfl⟩ (Nat.le_of_ble_eq_true rfl) ?_
  intro p e s m args below meth c Q ls hH C hl hth hret
  have hS : va_S (mA o ad) s.heap H [] := by rw [hH]; exact va_S.rf
  have hl : lv_has ls 3 [(0, .ref o), (1, zN i)] := hl
  refine lv_aload_n C.1 C.2.1 dX12_pointing_0 rfl (lv_at hl 0 rfl) ?_
  refine lv_iload_n C.1 C.2.1 dX12_pointing_1 rfl (lv_at hl 1 rfl) ?_
  refine z_callVX C (As := [zN i]) (rest := []) (c_X12_wholes l Z hM hB hi h27 h28 hcs hsz) hM.1 rfl ⟨⟨zw_31_17, zw_1_5, zw_31_14⟩, zd_X12_wholes⟩ zw_31_15 zw_31_16 ⟨Nat.le_of_ble_eq_true rfl, Nat.le_of_ble_eq_true rfl⟩ ⟨rfl, rfl⟩ rfl hl.1 rfl (Nat.le_of_ble_eq_true rfl) dX12_pointing_2 ⟨Nat.zero_le _, Nat.zero_le _⟩ hS (fun _ h => h) (fun H9 locs9 q9 ce9 hp9 hS9 _ _ g1 g2 g3 => ?_) (fun v H locs hp hS _ _ => ?_)
  · obtain ⟨w9, hw9, -⟩ := hp9
    exact absurd (h15.symm.trans hw9) (by simp)
  obtain ⟨rfl, -, σ0, N, hM, hc0, hW, ⟨h32, h33, h35, hn34, hn34e⟩⟩ := hp
  have hNw := isWh_n hW
  have hNs := stF_le hW.2 N (Nat.le_refl _)
  rw [hW.1] at hNs
  have h26a := (congrFun (hc0.2.1 26 (by decide)) i).trans h26
  have h29a := (congrFun (hc0.2.1 29 (by decide)) i).trans h29
  have h30a := (congrFun (hc0.2.1 30 (by decide)) i).trans h30
  have h37a := (hc0.1 37 (by decide)).trans h37
  have h39a := (hc0.1 39 (by decide)).trans h39
  have hc := hc0.mono (xs' := [32, 33, 35, 37, 39, 42]) (fs' := [34, 36, 38, 40, 41]) (by decide) (by decide)
  refine lv_aload_n C.1 C.2.1 dX12_pointing_5 rfl (lv_at hl 0 rfl) ?_
  refine lv_aload_n C.1 C.2.1 dX12_pointing_6 rfl (lv_at hl 0 rfl) ?_
  refine m_get C hM 26 (v := .ref (ad 26)) (by decide) zw_5_8 rfl rfl dX12_pointing_7 ?_
  refine lv_iload_n C.1 C.2.1 dX12_pointing_10 rfl (lv_at hl 1 rfl) ?_
  refine m_ald C hM 26 (by decide) i (t := ((i : Nat) : Int)) rfl (by show _ < 24; omega) dX12_pointing_11 ?_
  refine z_re (y := zI ((ml : Nat) : Int)) h26a ?_
  refine m_put C hM 42 (sx σ0 42 (zI ((ml : Nat) : Int))) rfl rfl (by decide) zw_33_4 rfl rfl rfl rfl hS dX12_pointing_12 (fun H locs hM hS => ?_)
  refine lv_aload_n C.1 C.2.1 dX12_pointing_15 rfl (lv_at hl 0 rfl) ?_
  refine m_get C hM 40 (v := .ref (ad 40)) (by decide) zw_5_18 rfl rfl dX12_pointing_16 ?_
  refine lv_iload_n C.1 C.2.1 dX12_pointing_19 rfl (lv_at hl 1 rfl) ?_
  refine lv_aload_n C.1 C.2.1 dX12_pointing_20 rfl (lv_at hl 0 rfl) ?_
  refine m_get C hM 37 (v := .int ((sx σ0 42 (zI ((ml : Nat) : Int))).1 37)) (by decide) zw_26_1 rfl rfl dX12_pointing_21 ?_
  refine z_re (y := zI ((nc : Nat) : Int)) h37a ?_
  refine m_ast C hM 40 (by decide) i (t := ((i : Nat) : Int)) rfl (by show _ < 24; omega) hS dX12_pointing_24 (fun H locs hM hS => ?_)
  refine lv_aload_n C.1 C.2.1 dX12_pointing_25 rfl (lv_at hl 0 rfl) ?_
  refine m_get C hM 41 (v := .ref (ad 41)) (by decide) zw_5_19 rfl rfl dX12_pointing_26 ?_
  refine lv_iload_n C.1 C.2.1 dX12_pointing_29 rfl (lv_at hl 1 rfl) ?_
  refine lv_aload_n C.1 C.2.1 dX12_pointing_30 rfl (lv_at hl 0 rfl) ?_
  refine m_get C hM 35 (v := .int ((sf (sx σ0 42 (zI ((ml : Nat) : Int))) 40 (upd ((sx σ0 42 (zI ((ml : Nat) : Int))).2.1 40) i (zI ((nc : Nat) : Int)))).1 35)) (by decide) zw_31_19 rfl rfl dX12_pointing_31 ?_
  refine z_re (y := zI ((N : Nat) : Int)) h35 ?_
  refine m_ast C hM 41 (by decide) i (t := ((i : Nat) : Int)) rfl (by show _ < 24; omega) hS dX12_pointing_34 (fun H locs hM hS => ?_)
  refine lv_iconst (v := zI 0) C.1 C.2.1 dX12_pointing_35 (by decide) ?_
  refine lv_istore_n (lv' := [(2, zN 0), (0, .ref o), (1, zN i)]) C.1 C.2.1 dX12_pointing_36 rfl hl (by decide) rfl (fun ls hl => ?_)
  have loopA : ∀ (fu : Nat) (j : Nat) (k : Nat) (te : Nat) (σ1 : mS) (H : Heap) (ls : Array Slot) (locs : List Loc), va_S (mA o ad) s.heap H locs → isM Z H o ad σ1 → (j + fu = sz + 1 ∧ j ≤ sz ∧ k ≤ N ∧ j ≤ stF F ca sz k ∧ ts ≤ te ∧ te ≤ ts + stF F ca sz k) → (∀ a, a < k → stF F ca sz a < j) → (chg [32, 33, 35, 37, 39, 42] [34, 36, 38, 40, 41] σ σ1) → (σ1.1 32 = zI (ca : Int)) → (σ1.1 33 = zI (sz : Int)) → (σ1.1 42 = zI (ml : Int)) → (∀ a, a < sz → σ1.2.1 34 a = zI (nbR F ca sz N a)) → (σ1.1 37 = zI ((nc + k : Nat) : Int)) → (σ1.1 39 = zI (te : Int)) → (σ1.2.1 40 = upd (σ.2.1 40) i (zI (nc : Int))) → (σ1.2.1 41 = upd (σ.2.1 41) i (zI (N : Int))) → (∀ a, a < 3 * nc → σ1.2.1 36 a = σ.2.1 36 a) → (∀ a, a < ts → σ1.2.1 38 a = σ.2.1 38 a) → (rowsIs F tb mt cl nf nm ca sz ml N (σ1.2.1 36) (σ1.2.1 38) nc k te) → (fst1 (g16 F tb mt cl nf nm ca sz ml N) (N - k) k = fst1 (g16 F tb mt cl nf nm ca sz ml N) N 0) → lv_has ls 3 [(2, zN j), (0, .ref o), (1, zN i)] → W p l e (rmk 8) s m args below meth c H locs 0 0 Q (F0 m 37 ls []) := by
    intro fu
    induction fu with
    | zero =>
      intro j k te σ1 H ls locs hS hM hj hlo hc h32 h33 hm42 hna h37 h39 h40 h41 hro hto hrw hx hl
      omega
    | succ fu ih_loopA =>
      intro j k te σ1 H ls locs hS hM hj hlo hc h32 h33 hm42 hna h37 h39 h40 h41 hro hto hrw hx hl
      have hB := hB0.chg hc (by decide) (by decide)
      have hL := hL0.chg hc (by decide) (by decide)
      refine lv_iload_n C.1 C.2.1 dX12_pointing_37 rfl (lv_at hl 0 rfl) ?_
      refine lv_aload_n C.1 C.2.1 dX12_pointing_38 rfl (lv_at hl 1 rfl) ?_
      refine m_get C hM 33 (v := .int (σ1.1 33)) (by decide) zw_31_18 rfl rfl dX12_pointing_39 ?_
      refine z_re (y := zI ((sz : Nat) : Int)) h33 ?_
      refine y_icmp_ge (tgt := 65) C (a := ((j : Nat) : Int)) (b := ((sz : Nat) : Int)) dX12_pointing_42 (by decide) (by omega) (fun h42 => ?_) (fun h42 => ?_)
      · have hkN : N = k := by
          by_cases e : k = N
          · exact e.symm
          · have := (hW.2 k (by omega)).1
            omega
        subst hkN
        have hx16 : fst1 (g16 F tb mt cl nf nm ca sz ml N) N 0 = none := by rw [← hx, Nat.sub_self]; rfl
        have h29b := (congrFun (hc.2.1 29 (by decide)) i).trans h29
        have h30b := (congrFun (hc.2.1 30 (by decide)) i).trans h30
        have hna2 : ∀ a, a < sz → σ1.2.1 34 a = zI (nbR F ca sz N a) ∧ -1 ≤ nbR F ca sz N a ∧ nbR F ca sz N a ≤ 1200 := fun a h => ⟨hna a h, by have := nbR_rg F ca sz N a; omega, by have := nbR_rg F ca sz N a; omega⟩
        refine lv_iconst (v := zI 0) C.1 C.2.1 dX12_pointing_65 (by decide) ?_
        refine lv_istore_n (lv' := [(2, zN 0), (0, .ref o), (1, zN i)]) C.1 C.2.1 dX12_pointing_66 rfl hl (by decide) rfl (fun ls hl => ?_)
        have loopB : ∀ (fv : Nat) (w : Nat) (H : Heap) (ls : Array Slot) (locs : List Loc), va_S (mA o ad) s.heap H locs → isM Z H o ad σ1 → (w + fv = cn + 1 ∧ w ≤ cn) → (fst1 (fun w => ctR F tb (U2 F 8) sz (nbR F ca sz N) (ch + 8 * w)) (cn - w) w = fst1 (fun w => ctR F tb (U2 F 8) sz (nbR F ca sz N) (ch + 8 * w)) cn 0) → lv_has ls 3 [(2, zN w), (0, .ref o), (1, zN i)] → W p l e (rmk 8) s m args below meth c H locs 0 0 Q (F0 m 67 ls []) := by
          intro fv
          induction fv with
          | zero =>
            intro w H ls locs hS hM hw hy hl
            omega
          | succ fv ih_loopB =>
            intro w H ls locs hS hM hw hy hl
            refine lv_iload_n C.1 C.2.1 dX12_pointing_67 rfl (lv_at hl 0 rfl) ?_
            refine lv_aload_n C.1 C.2.1 dX12_pointing_68 rfl (lv_at hl 1 rfl) ?_
            refine m_get C hM 30 (v := .ref (ad 30)) (by decide) zw_5_12 rfl rfl dX12_pointing_69 ?_
            refine lv_iload_n C.1 C.2.1 dX12_pointing_72 rfl (lv_at hl 2 rfl) ?_
            refine m_ald C hM 30 (by decide) i (t := ((i : Nat) : Int)) rfl (by show _ < 24; omega) dX12_pointing_73 ?_
            refine z_re (y := zI ((cn : Nat) : Int)) h30b ?_
            refine y_icmp_ge (tgt := 98) C (a := ((w : Nat) : Int)) (b := ((cn : Nat) : Int)) dX12_pointing_74 (by decide) (by omega) (fun h74 => ?_) (fun h74 => ?_)
            · exact hret _ _ _ _ hS ⟨rfl, (by rw [← hNw]; exact (or_n hx16).trans (by rw [← hy, show cn - w = 0 by omega]; rfl)), σ1, te, hM, hc, (by rw [← hNw]; exact hW), (by rw [← hNw]; exact h37), h39, (by omega), (by have := hW.1; omega), hro, hto, (by rw [← hNw]; exact hrw), h40, (by rw [← hNw]; exact h41)⟩ dX12_pointing_98
            · have hv : cn - w = (cn - w - 1) + 1 := by omega
              refine lv_aload_n C.1 C.2.1 dX12_pointing_77 rfl (lv_at hl 1 rfl) ?_
              refine lv_aload_n C.1 C.2.1 dX12_pointing_78 rfl (lv_at hl 1 rfl) ?_
              refine m_get C hM 29 (v := .ref (ad 29)) (by decide) zw_5_11 rfl rfl dX12_pointing_79 ?_
              refine lv_iload_n C.1 C.2.1 dX12_pointing_82 rfl (lv_at hl 2 rfl) ?_
              refine m_ald C hM 29 (by decide) i (t := ((i : Nat) : Int)) rfl (by show _ < 24; omega) dX12_pointing_83 ?_
              refine z_re (y := zI ((ch : Nat) : Int)) h29b ?_
              refine lv_bipush (v := zI 8) C.1 C.2.1 dX12_pointing_84 (by decide) ?_
              refine lv_iload_n C.1 C.2.1 dX12_pointing_86 rfl (lv_at hl 0 rfl) ?_
              refine y_imulN C (a := 8) (b := w) dX12_pointing_87 ?_
              refine y_iaddN C (a := ch) (b := 8 * w) dX12_pointing_88 ?_
              refine z_callVX C (As := [zN (ch + (8 * w))]) (rest := []) (c_X12_caught l Z hM hB hL hx6 h33 hsz hna2 (ch + 8 * w) (by omega) (by omega)) hM.1 rfl ⟨⟨zw_35_9, zw_1_5, zw_35_6⟩, zd_X12_caught⟩ zw_35_7 zw_35_8 ⟨Nat.le_of_ble_eq_true rfl, Nat.le_of_ble_eq_true rfl⟩ ⟨rfl, rfl⟩ rfl hl.1 rfl (Nat.le_of_ble_eq_true rfl) dX12_pointing_89 ⟨Nat.zero_le _, Nat.zero_le _⟩ hS (fun _ h => h) (fun H9 locs9 q9 ce9 hp9 hS9 _ _ g1 g2 g3 => ?_) (fun v H locs hp hS _ _ => ?_)
              · obtain ⟨w9, hw9, hb9⟩ := hp9
                exact hth _ _ _ _ _ _ _ hS9 ⟨w9, (by rw [← hNw]; exact (or_n hx16).trans (by rw [← hy, hv]; exact fst1_e (g := (fun w => ctR F tb (U2 F 8) sz (nbR F ca sz N) (ch + 8 * w))) hw9)), mBrk_up (hc.mono (by decide) (by decide)) hb9 (by decide) (by decide)⟩ g1 g2 g3
              obtain ⟨rfl, hct, hM⟩ := hp
              refine lv_iinc (v := zI ((w + 1 : Nat) : Int)) (lv' := [(2, zN (w + 1)), (0, .ref o), (1, zN i)]) C.1 C.2.1 dX12_pointing_92 hl (k := 0) rfl (zI_add _ _) (by decide) rfl (fun ls hl => ?_)
              refine lv_goto (tgt := 67) C.1 C.2.1 dX12_pointing_95 (by decide) ?_
              exact ih_loopB (w + 1) _ ls _ hS hM (by omega) (by rw [← hy, hv, fst1_s (g := (fun w => ctR F tb (U2 F 8) sz (nbR F ca sz N) (ch + 8 * w))) hct, show cn - (w + 1) = cn - w - 1 by omega]) hl
        exact loopB (cn + 1) 0 _ ls _ hS hM (by omega) rfl hl
      · refine lv_aload_n C.1 C.2.1 dX12_pointing_45 rfl (lv_at hl 1 rfl) ?_
        refine m_get C hM 34 (v := .ref (ad 34)) (by decide) zw_5_13 rfl rfl dX12_pointing_46 ?_
        refine lv_iload_n C.1 C.2.1 dX12_pointing_49 rfl (lv_at hl 0 rfl) ?_
        refine m_ald C hM 34 (by decide) j (t := ((j : Nat) : Int)) rfl (by show _ < 1201; omega) dX12_pointing_50 ?_
        refine z_re (y := zI (nbR F ca sz N j)) (hna j (by omega)) ?_
        have hnr := nbR_rg F ca sz N j
        refine y_if_lt (tgt := 59) C (a := nbR F ca sz N j) dX12_pointing_51 (by decide) (by omega) (fun h51 => ?_) (fun h51 => ?_)
        · have hkj : j < stF F ca sz k := by
            rcases Nat.lt_or_ge j (stF F ca sz k) with h | h
            · exact h
            · by_cases e : k = N
              · subst e; rw [hW.1] at h; omega
              · have h1 := nbR_at hW N k (by omega) (Nat.le_refl _)
                rw [show stF F ca sz k = j by omega] at h1
                omega
          refine lv_iinc (v := zI ((j + 1 : Nat) : Int)) (lv' := [(2, zN (j + 1)), (0, .ref o), (1, zN i)]) C.1 C.2.1 dX12_pointing_59 hl (k := 0) rfl (zI_add _ _) (by decide) rfl (fun ls hl => ?_)
          refine lv_goto (tgt := 37) C.1 C.2.1 dX12_pointing_62 (by decide) ?_
          exact ih_loopA (j + 1) k te _ _ ls _ hS hM (by omega) (fun a h => by have := hlo a h; omega) (hc) h32 h33 hm42 hna h37 h39 h40 h41 hro hto hrw hx hl
        · refine lv_aload_n C.1 C.2.1 dX12_pointing_54 rfl (lv_at hl 1 rfl) ?_
          refine lv_iload_n C.1 C.2.1 dX12_pointing_55 rfl (lv_at hl 0 rfl) ?_
          obtain ⟨k2, hk2, hk3, hk4⟩ := nbR_pos N j (by omega)
          have hkk : k = k2 := by
            rcases Nat.lt_trichotomy k2 k with h | h | h
            · have := hlo k2 h; omega
            · exact h.symm
            · have := stF_lt hW k2 k h (by omega); omega
          subst hkk
          have hkN := hk2
          have hu : N - k = (N - k - 1) + 1 := by omega
          have hu2 := stF_le hW.2 k (by omega)
          refine z_callVX C (As := [zN j]) (rest := []) (c_X12_instruction l Z hM hB hL hx6 hx8 hx9 (na := nbR F ca sz N) h32 h33 (by omega) hcs hsz (fun a h => ⟨hna a h, by have := nbR_rg F ca sz N a; omega, by have := nbR_rg F ca sz N a; omega⟩) hm42 hml h37 (by omega) h39 (by omega) j (F (ca + j)) (by omega) rfl (by rw [hk4]; exact (hW.2 k hkN).2)) hM.1 rfl ⟨⟨zw_33_8, zw_1_5, zw_33_5⟩, zd_X12_instruction⟩ zw_33_6 zw_33_7 ⟨Nat.le_of_ble_eq_true rfl, Nat.le_of_ble_eq_true rfl⟩ ⟨rfl, rfl⟩ rfl hl.1 rfl (Nat.le_of_ble_eq_true rfl) dX12_pointing_56 ⟨Nat.zero_le _, Nat.zero_le _⟩ hS (fun _ h => h) (fun H9 locs9 q9 ce9 hp9 hS9 _ _ g1 g2 g3 => ?_) (fun v H locs hp hS _ _ => ?_)
          · exact hth _ _ _ _ _ _ _ hS9 (⟨ca + stF F ca sz k, (by rw [← hNw]; exact or_s (by rw [← hx, hu]; exact fst1_e (by unfold g16; rw [if_neg (by rw [← hk4, hp9.1]; decide)]))), by rw [← hk4]; exact mBrk_up (hc.mono (by decide) (by decide)) hp9.2 (by decide) (by decide)⟩) g1 g2 g3
          obtain ⟨rfl, hok, σ2, te2, hM, hq2, hq3, hq4, hq5, hq6, hq7, hq8, hq9⟩ := hp
          rw [hk4] at hok hq6 hq9
          refine lv_iinc (v := zI ((j + 1 : Nat) : Int)) (lv' := [(2, zN (j + 1)), (0, .ref o), (1, zN i)]) C.1 C.2.1 dX12_pointing_59 hl (k := 0) rfl (zI_add _ _) (by decide) rfl (fun ls hl => ?_)
          refine lv_goto (tgt := 37) C.1 C.2.1 dX12_pointing_62 (by decide) ?_
          exact ih_loopA (j + 1) (k + 1) te2 _ _ ls _ hS hM (by rw [stF_s]; have := (hW.2 k hkN).2; omega) (fun a h => by rcases Nat.lt_succ_iff_lt_or_eq.mp h with h | h; (have := hlo a h; omega); (subst h; omega)) (hc.tr (hq2.mono (by decide) (by decide))) ((hq2.1 32 (by decide)).trans h32) ((hq2.1 33 (by decide)).trans h33) ((hq2.1 42 (by decide)).trans hm42) (fun a h => (congrFun (hq2.2.1 34 (by decide)) a).trans (hna a h)) hq3 hq4 ((hq2.2.1 40 (by decide)).trans h40) ((hq2.2.1 41 (by decide)).trans h41) (fun a h => (hq7 a (by omega)).trans (hro a h)) (fun a h => (hq8 a (by omega)).trans (hto a h)) (hrw.snoc hq7 hq8 hq5 hq9) (by rw [← hx, hu, fst1_s (by unfold g16; rw [if_pos hok]), show N - (k + 1) = N - k - 1 by omega]) hl
  exact loopA (sz + 1) 0 0 ts _ _ ls _ hS hM (by show 0 + (sz + 1) = sz + 1 ∧ 0 ≤ sz ∧ 0 ≤ N ∧ 0 ≤ 0 ∧ ts ≤ ts ∧ ts ≤ ts + 0; omega) (fun a h => absurd h (Nat.not_lt_zero a)) (chg_sf (by decide) (chg_sf (by decide) (chg_sx (by decide) hc))) h32 h33 rfl hn34 h37a h39a (by show upd (σ0.2.1 40) i _ = _; rw [hc0.2.1 40 (by decide)]) (by show upd (σ0.2.1 41) i _ = _; rw [hc0.2.1 41 (by decide)]) (fun a _ => congrFun (hc0.2.1 36 (by decide)) a) (fun a _ => congrFun (hc0.2.1 38 (by decide)) a) (fun a h => absurd h (Nat.not_lt_zero a)) rfl hl
