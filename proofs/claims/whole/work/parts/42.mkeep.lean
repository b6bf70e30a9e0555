/-! the model: keep -/
theorem tyAt_41 {F : Nat → Nat} {fp ln i j : Nat} (h : tyAt F fp ln i > 0) (h1 : i ≤ j) (h2 : j < i + tyAt F fp ln i) : nmC F fp ln j ≠ 41 := by
  unfold tyAt at h h2
  split at h
  · rename_i g
    rw [if_pos g] at h2
    rw [show j = i by omega]
    omega
  · rename_i g
    rw [if_neg g] at h2
    split at h
    · rename_i g2
      rw [if_pos g2] at h2
      by_cases e : j = i
      · rw [e]; omega
      · rw [show j = i + 1 by omega]; omega
    · exact absurd h (by decide)
theorem ppL_41 (F : Nat → Nat) (fp ln : Nat) : ∀ (c i n j : Nat), i ≤ j → j < (ppL F fp ln c i n).1 → nmC F fp ln j ≠ 41 := by
  intro c
  induction c with
  | zero => intro i n j h1 h2; exact absurd (show j < i from h2) (by omega)
  | succ c ih =>
    intro i n j h1 h2
    unfold ppL at h2
    split at h2
    · rename_i h
      by_cases e : j < i + tyAt F fp ln i
      · exact tyAt_41 h h1 e
      · exact ih _ _ j (by omega) h2
    · exact absurd (show j < i from h2) (by omega)
theorem pp_spec {F : Nat → Nat} {fp ln : Nat} (h : 0 ≤ pp F fp ln) : nmC F fp ln 0 = 40 ∧ nmC F fp ln (ppI F fp ln).1 = 41 ∧ (∀ j, j < (ppI F fp ln).1 → nmC F fp ln j ≠ 41) ∧ (ppI F fp ln).1 + 1 + ppLast F fp ln ((ppI F fp ln).1 + 1) = ln ∧ 0 < ppLast F fp ln ((ppI F fp ln).1 + 1) := by
  unfold pp at h
  split at h
  · rename_i g
    refine ⟨g.1, g.2.1, fun j hj => ?_, g.2.2.2, g.2.2.1⟩
    by_cases e : j = 0
    · rw [e, g.1]; decide
    · exact ppL_41 F fp ln _ 1 0 j (by omega) hj
  · exact absurd h (by decide)
/-- the type of a field, the result of a method, as the answers tell them -/
def fyN (F tb : Nat → Nat) (k : Nat) : Int := kdA (nmC F (nP tb k) (nL F tb k) 0)
def rsN (F tb : Nat → Nat) (k : Nat) : Int := kdA (nmC F (nP tb k) (nL F tb k) ((ppI F (nP tb k) (nL F tb k)).1 + 1))
def mHd (F tb mt : Nat → Nat) (nf i : Nat) (σ : mS) : Prop := σ.2.1 48 (6 * i) = zI (nWf F tb mt nf i : Int) ∧ σ.2.1 48 (6 * i + 1) = zI (U2 F (cP F tb mt nf i + 6) : Int) ∧ σ.2.1 48 (6 * i + 2) = zI (U2 F (cP F tb mt nf i + 8) : Int) ∧ σ.2.1 48 (6 * i + 3) = zI (ppN F tb (U2 F (mt (nf + i) + 4))) ∧ σ.2.1 48 (6 * i + 4) = zI (cN F (cP F tb mt nf i) : Int) ∧ σ.2.1 48 (6 * i + 5) = zI (rsN F tb (U2 F (mt (nf + i) + 4))) ∧ σ.2.1 49 i = zI (nB F tb mt nf i : Int)
/-- what the model keeps of the latest file without a broken rule -/
def mKeep (F tb mt : Nat → Nat) (nf nm cl : Nat) (σ : mS) : Prop := σ.1 43 = zI 1 ∧ σ.1 44 = zI (nf : Int) ∧ σ.1 45 = zI (nm : Int) ∧ σ.1 46 = zI (U2 F 8 : Int) ∧ (∀ k, k < nf → σ.2.1 47 k = zI (fyN F tb (U2 F (mt k + 4)))) ∧ ∃ te : Nat, te ≤ 28800 ∧ ∀ i, i < nm → mHd F tb mt nf i σ ∧ mRw F tb mt cl nf nm (σ.2.1 50) (σ.2.1 51) te i ∧ nB F tb mt nf i + nWf F tb mt nf i ≤ 28800
theorem upd6 {f : Nat → Int32} {j : Nat} {v0 v1 v2 v3 v4 v5 : Int32} : (upd (upd (upd (upd (upd (upd f (6 * j) v0) (6 * j + 1) v1) (6 * j + 2) v2) (6 * j + 3) v3) (6 * j + 4) v4) (6 * j + 5) v5 (6 * j) = v0 ∧ upd (upd (upd (upd (upd (upd f (6 * j) v0) (6 * j + 1) v1) (6 * j + 2) v2) (6 * j + 3) v3) (6 * j + 4) v4) (6 * j + 5) v5 (6 * j + 1) = v1 ∧ upd (upd (upd (upd (upd (upd f (6 * j) v0) (6 * j + 1) v1) (6 * j + 2) v2) (6 * j + 3) v3) (6 * j + 4) v4) (6 * j + 5) v5 (6 * j + 2) = v2 ∧ upd (upd (upd (upd (upd (upd f (6 * j) v0) (6 * j + 1) v1) (6 * j + 2) v2) (6 * j + 3) v3) (6 * j + 4) v4) (6 * j + 5) v5 (6 * j + 3) = v3 ∧ upd (upd (upd (upd (upd (upd f (6 * j) v0) (6 * j + 1) v1) (6 * j + 2) v2) (6 * j + 3) v3) (6 * j + 4) v4) (6 * j + 5) v5 (6 * j + 4) = v4 ∧ upd (upd (upd (upd (upd (upd f (6 * j) v0) (6 * j + 1) v1) (6 * j + 2) v2) (6 * j + 3) v3) (6 * j + 4) v4) (6 * j + 5) v5 (6 * j + 5) = v5) ∧ ∀ a, a < 6 * j → upd (upd (upd (upd (upd (upd f (6 * j) v0) (6 * j + 1) v1) (6 * j + 2) v2) (6 * j + 3) v3) (6 * j + 4) v4) (6 * j + 5) v5 a = f a := by
  refine ⟨⟨?_, ?_, ?_, ?_, ?_, ?_⟩, fun a ha => ?_⟩
  · exact (upd_ne (by omega)).trans ((upd_ne (by omega)).trans ((upd_ne (by omega)).trans ((upd_ne (by omega)).trans ((upd_ne (by omega)).trans upd_2))))
  · exact (upd_ne (by omega)).trans ((upd_ne (by omega)).trans ((upd_ne (by omega)).trans ((upd_ne (by omega)).trans upd_2)))
  · exact (upd_ne (by omega)).trans ((upd_ne (by omega)).trans ((upd_ne (by omega)).trans upd_2))
  · exact (upd_ne (by omega)).trans ((upd_ne (by omega)).trans upd_2)
  · exact (upd_ne (by omega)).trans upd_2
  · exact upd_2
  · exact (upd_ne (by omega)).trans ((upd_ne (by omega)).trans ((upd_ne (by omega)).trans ((upd_ne (by omega)).trans ((upd_ne (by omega)).trans (upd_ne (by omega))))))

set_option maxHeartbeats 4000000 in
set_option maxRecDepth 20000 in
theorem c_X12_keep (l : Launch) (Z : zT) {H : Heap} {o : Nat} {ad : Nat → Nat} {σ : mS} (hM : isM Z H o ad σ) {F : Nat → Nat} {n : Nat} (hB : mSrc σ F n) {cl nf nm fa last : Nat} {tb mt : Nat → Nat} (hL : mLay σ F n tb cl nf nm mt fa last) (hx9 : x9 F tb (U2 F 8) mt (nf + nm) fa = none) (hx10 : x10 F tb (U2 F 8) mt nf (nf + nm) = none) (hN : mNew F tb mt cl nf nm σ) : zM l Z yX12_keep cX12_keep 4 none (rmk 5) [.ref o] H (mA o ad) 0 0 (fun v H' => v = none ∧ ∃ σ' : mS, isM Z H' o ad σ' ∧ chg [43, 44, 45, 46] [47, 48, 49, 50, 51] σ σ' ∧ mKeep F tb mt nf nm cl σ') := by
  have hB0 := hB
  obtain ⟨te, hte, h37, hnb, h39, hnew⟩ := hN
  generalize hnbe : nB F tb mt nf nm = nb at h37 hnb hnew
  have hn := hB.2.2.2
  have hpc := hL.2.1
  have hcl := hL.2.2.2.2.2.1
  have hnf := hL.2.2.2.2.2.2.2.2.1
  have hnm := hL.2.2.2.2.2.2.2.2.2.1
  have hMt := hL.2.2.2.2.2.2.2.2.2.2.1
  have hna := hL.2.2.2.2.2.2.2.2.2.2.2.2.1
  have hfa := hL.2.2.2.2.2.2.2.2.2.2.2.2.2.1
  refine zM.introV (own := RX12) ⟨by decide, rfl⟩ (Nat.le_of_ble_eq_true rfl) ?_
  intro p e s m args below meth c Q ls hH C hnm hl hret
  have hS : va_S (mA o ad) s.heap H [] := by rw [hH]; exact va_S.rf
  have hl : lv_has ls 4 [(0, .ref o)] := hl
  refine lv_aload_n C.1 C.2.1 dX12_keep_0 rfl (lv_at hl 0 rfl) ?_
  refine lv_iconst (v := zI 1) C.1 C.2.1 dX12_keep_1 (by decide) ?_
  refine m_put C hM 43 (sx σ 43 (zI 1)) rfl rfl (by decide) zw_35_17 rfl rfl rfl rfl hS dX12_keep_2 (fun H locs hM hS => ?_)
  refine lv_aload_n C.1 C.2.1 dX12_keep_5 rfl (lv_at hl 0 rfl) ?_
  refine lv_aload_n C.1 C.2.1 dX12_keep_6 rfl (lv_at hl 0 rfl) ?_
  refine m_get C hM 18 (v := .int ((sx σ 43 (zI 1)).1 18)) (by decide) zw_26_0 rfl rfl dX12_keep_7 ?_
  refine z_re (y := zI ((nf : Nat) : Int)) hL.2.2.2.2.2.2.2.1 ?_
  refine m_put C hM 44 (sx (sx σ 43 (zI 1)) 44 (zI ((nf : Nat) : Int))) rfl rfl (by decide) zw_35_18 rfl rfl rfl rfl hS dX12_keep_10 (fun H locs hM hS => ?_)
  refine lv_aload_n C.1 C.2.1 dX12_keep_13 rfl (lv_at hl 0 rfl) ?_
  refine lv_aload_n C.1 C.2.1 dX12_keep_14 rfl (lv_at hl 0 rfl) ?_
  refine m_get C hM 17 (v := .int ((sx (sx σ 43 (zI 1)) 44 (zI ((nf : Nat) : Int))).1 17)) (by decide) zw_25_23 rfl rfl dX12_keep_15 ?_
  refine z_re (y := zI ((nf + nm : Nat) : Int)) hL.2.2.2.2.2.2.1 ?_
  refine lv_aload_n C.1 C.2.1 dX12_keep_18 rfl (lv_at hl 0 rfl) ?_
  refine m_get C hM 18 (v := .int ((sx (sx σ 43 (zI 1)) 44 (zI ((nf : Nat) : Int))).1 18)) (by decide) zw_26_0 rfl rfl dX12_keep_19 ?_
  refine z_re (y := zI ((nf : Nat) : Int)) hL.2.2.2.2.2.2.2.1 ?_
  refine y_isub C (a := ((nf + nm : Nat) : Int)) (b := ((nf : Nat) : Int)) dX12_keep_22 ?_
  refine m_put C hM 45 (sx (sx (sx σ 43 (zI 1)) 44 (zI ((nf : Nat) : Int))) 45 (zI (((nf + nm : Nat) : Int) - ((nf : Nat) : Int)))) rfl rfl (by decide) zw_35_19 rfl rfl rfl rfl hS dX12_keep_23 (fun H locs hM hS => ?_)
  refine lv_aload_n C.1 C.2.1 dX12_keep_26 rfl (lv_at hl 0 rfl) ?_
  refine lv_aload_n C.1 C.2.1 dX12_keep_27 rfl (lv_at hl 0 rfl) ?_
  refine m_get C hM 10 (v := .int ((sx (sx (sx σ 43 (zI 1)) 44 (zI ((nf : Nat) : Int))) 45 (zI (((nf + nm : Nat) : Int) - ((nf : Nat) : Int)))).1 10)) (by decide) zw_26_9 rfl rfl dX12_keep_28 ?_
  refine z_re (y := zI ((U2 F 8 : Nat) : Int)) hL.1 ?_
  refine m_put C hM 46 (sx (sx (sx (sx σ 43 (zI 1)) 44 (zI ((nf : Nat) : Int))) 45 (zI (((nf + nm : Nat) : Int) - ((nf : Nat) : Int)))) 46 (zI ((U2 F 8 : Nat) : Int))) rfl rfl (by decide) zw_35_20 rfl rfl rfl rfl hS dX12_keep_31 (fun H locs hM hS => ?_)
  refine lv_iconst (v := zI 0) C.1 C.2.1 dX12_keep_34 (by decide) ?_
  refine lv_istore_n (lv' := [(1, zN 0), (0, .ref o)]) C.1 C.2.1 dX12_keep_35 rfl hl (by decide) rfl (fun ls hl => ?_)
  have loopR : ∀ (fu : Nat) (k : Nat) (σ1 : mS) (H : Heap) (ls : Array Slot) (locs : List Loc), va_S (mA o ad) s.heap H locs → isM Z H o ad σ1 → (k + fu = 3 * nb + 1 ∧ k ≤ 3 * nb) → (chg [43, 44, 45, 46] [47, 48, 49, 50, 51] σ σ1) → (σ1.1 43 = zI 1) → (σ1.1 44 = zI (nf : Int)) → (σ1.1 45 = zI (nm : Int)) → (σ1.1 46 = zI (U2 F 8 : Int)) → (∀ a, a < k → σ1.2.1 50 a = σ.2.1 36 a) → lv_has ls 4 [(1, zN k), (0, .ref o)] → W p l e (rmk 5) s m args below meth c H locs 0 0 Q (F0 m 36 ls []) := by
    intro fu
    induction fu with
    | zero =>
      intro k σ1 H ls locs hS hM hk hc g43 g44 g45 g46 hr hl
      omega
    | succ fu ih_loopR =>
      intro k σ1 H ls locs hS hM hk hc g43 g44 g45 g46 hr hl
      refine lv_iload_n C.1 C.2.1 dX12_keep_36 rfl (lv_at hl 0 rfl) ?_
      refine lv_iconst (v := zI 3) C.1 C.2.1 dX12_keep_37 (by decide) ?_
      refine lv_aload_n C.1 C.2.1 dX12_keep_38 rfl (lv_at hl 1 rfl) ?_
      refine m_get C hM 37 (v := .int (σ1.1 37)) (by decide) zw_26_1 rfl rfl dX12_keep_39 ?_
      refine z_re (y := zI ((nb : Nat) : Int)) ((hc.1 37 (by decide)).trans h37) ?_
      refine y_imulN C (a := 3) (b := nb) dX12_keep_42 ?_
      refine y_icmp_ge (tgt := 64) C (a := ((k : Nat) : Int)) (b := ((3 * nb : Nat) : Int)) dX12_keep_43 (by decide) (by omega) (fun h43 => ?_) (fun h43 => ?_)
      · refine lv_iconst (v := zI 0) C.1 C.2.1 dX12_keep_64 (by decide) ?_
        refine lv_istore_n (lv' := [(1, zN 0), (0, .ref o)]) C.1 C.2.1 dX12_keep_65 rfl hl (by decide) rfl (fun ls hl => ?_)
        have loopT : ∀ (fv : Nat) (k : Nat) (σ1 : mS) (H : Heap) (ls : Array Slot) (locs : List Loc), va_S (mA o ad) s.heap H locs → isM Z H o ad σ1 → (k + fv = te + 1 ∧ k ≤ te) → (chg [43, 44, 45, 46] [47, 48, 49, 50, 51] σ σ1) → (σ1.1 43 = zI 1) → (σ1.1 44 = zI (nf : Int)) → (σ1.1 45 = zI (nm : Int)) → (σ1.1 46 = zI (U2 F 8 : Int)) → (∀ a, a < 3 * nb → σ1.2.1 50 a = σ.2.1 36 a) → (∀ a, a < k → σ1.2.1 51 a = σ.2.1 38 a) → lv_has ls 4 [(1, zN k), (0, .ref o)] → W p l e (rmk 5) s m args below meth c H locs 0 0 Q (F0 m 66 ls []) := by
          intro fv
          induction fv with
          | zero =>
            intro k σ1 H ls locs hS hM hk hc g43 g44 g45 g46 hr ht hl
            omega
          | succ fv ih_loopT =>
            intro k σ1 H ls locs hS hM hk hc g43 g44 g45 g46 hr ht hl
            refine lv_iload_n C.1 C.2.1 dX12_keep_66 rfl (lv_at hl 0 rfl) ?_
            refine lv_aload_n C.1 C.2.1 dX12_keep_67 rfl (lv_at hl 1 rfl) ?_
            refine m_get C hM 39 (v := .int (σ1.1 39)) (by decide) zw_26_2 rfl rfl dX12_keep_68 ?_
            refine z_re (y := zI ((te : Nat) : Int)) ((hc.1 39 (by decide)).trans h39) ?_
            refine y_icmp_ge (tgt := 92) C (a := ((k : Nat) : Int)) (b := ((te : Nat) : Int)) dX12_keep_71 (by decide) (by omega) (fun h71 => ?_) (fun h71 => ?_)
            · refine lv_iconst (v := zI 0) C.1 C.2.1 dX12_keep_92 (by decide) ?_
              refine lv_istore_n (lv' := [(1, zN 0), (0, .ref o)]) C.1 C.2.1 dX12_keep_93 rfl hl (by decide) rfl (fun ls hl => ?_)
              have loopF : ∀ (fw : Nat) (k : Nat) (σ1 : mS) (H : Heap) (ls : Array Slot) (locs : List Loc), va_S (mA o ad) s.heap H locs → isM Z H o ad σ1 → (k + fw = nf + 1 ∧ k ≤ nf) → (chg [43, 44, 45, 46] [47, 48, 49, 50, 51] σ σ1) → (σ1.1 43 = zI 1) → (σ1.1 44 = zI (nf : Int)) → (σ1.1 45 = zI (nm : Int)) → (σ1.1 46 = zI (U2 F 8 : Int)) → (∀ a, a < 3 * nb → σ1.2.1 50 a = σ.2.1 36 a) → (∀ a, a < te → σ1.2.1 51 a = σ.2.1 38 a) → (∀ a, a < k → σ1.2.1 47 a = zI (fyN F tb (U2 F (mt a + 4)))) → lv_has ls 4 [(1, zN k), (0, .ref o)] → W p l e (rmk 5) s m args below meth c H locs 0 0 Q (F0 m 94 ls []) := by
                intro fw
                induction fw with
                | zero =>
                  intro k σ1 H ls locs hS hM hk hc g43 g44 g45 g46 hr ht hf hl
                  omega
                | succ fw ih_loopF =>
                  intro k σ1 H ls locs hS hM hk hc g43 g44 g45 g46 hr ht hf hl
                  have hB := hB0.chg hc (by decide) (by decide)
                  have hLc := hL.chg hc (by decide) (by decide)
                  refine lv_iload_n C.1 C.2.1 dX12_keep_94 rfl (lv_at hl 0 rfl) ?_
                  refine lv_aload_n C.1 C.2.1 dX12_keep_95 rfl (lv_at hl 1 rfl) ?_
                  refine m_get C hM 44 (v := .int (σ1.1 44)) (by decide) zw_35_18 rfl rfl dX12_keep_96 ?_
                  refine z_re (y := zI ((nf : Nat) : Int)) g44 ?_
                  refine y_icmp_ge (tgt := 134) C (a := ((k : Nat) : Int)) (b := ((nf : Nat) : Int)) dX12_keep_99 (by decide) (by omega) (fun h99 => ?_) (fun h99 => ?_)
                  · refine lv_iconst (v := zI 0) C.1 C.2.1 dX12_keep_134 (by decide) ?_
                    refine lv_istore_n (lv' := [(1, zN 0), (0, .ref o)]) C.1 C.2.1 dX12_keep_135 rfl hl (by decide) rfl (fun ls hl => ?_)
                    have loopM : ∀ (fx : Nat) (j : Nat) (σ1 : mS) (H : Heap) (ls : Array Slot) (locs : List Loc), va_S (mA o ad) s.heap H locs → isM Z H o ad σ1 → (j + fx = nm + 1 ∧ j ≤ nm) → (chg [43, 44, 45, 46] [47, 48, 49, 50, 51] σ σ1) → (σ1.1 43 = zI 1) → (σ1.1 44 = zI (nf : Int)) → (σ1.1 45 = zI (nm : Int)) → (σ1.1 46 = zI (U2 F 8 : Int)) → (∀ a, a < 3 * nb → σ1.2.1 50 a = σ.2.1 36 a) → (∀ a, a < te → σ1.2.1 51 a = σ.2.1 38 a) → (∀ a, a < nf → σ1.2.1 47 a = zI (fyN F tb (U2 F (mt a + 4)))) → (∀ a, a < j → mHd F tb mt nf a σ1) → lv_has ls 4 [(1, zN j), (0, .ref o)] → W p l e (rmk 5) s m args below meth c H locs 0 0 Q (F0 m 136 ls []) := by
                      intro fx
                      induction fx with
                      | zero =>
                        intro j σ1 H ls locs hS hM hj hc g43 g44 g45 g46 hr ht hf hh hl
                        omega
                      | succ fx ih_loopM =>
                        intro j σ1 H ls locs hS hM hj hc g43 g44 g45 g46 hr ht hf hh hl
                        have hB := hB0.chg hc (by decide) (by decide)
                        have hLc := hL.chg hc (by decide) (by decide)
                        refine lv_iload_n C.1 C.2.1 dX12_keep_136 rfl (lv_at hl 0 rfl) ?_
                        refine lv_aload_n C.1 C.2.1 dX12_keep_137 rfl (lv_at hl 1 rfl) ?_
                        refine m_get C hM 45 (v := .int (σ1.1 45)) (by decide) zw_35_19 rfl rfl dX12_keep_138 ?_
                        refine z_re (y := zI ((nm : Nat) : Int)) g45 ?_
                        refine y_icmp_ge (tgt := 303) C (a := ((j : Nat) : Int)) (b := ((nm : Nat) : Int)) dX12_keep_141 (by decide) (by omega) (fun h141 => ?_) (fun h141 => ?_)
                        · exact hret _ _ _ _ hS ⟨rfl, σ1, hM, hc, g43, g44, g45, g46, hf, te, hte, fun a h => ⟨hh a (by omega), (hnew a h).2.1.mono (fun b hb => hr b (by have := (hnew a h).2.2.2.2; omega)) (fun b hb => ht b hb) (Nat.le_refl _), by have := (hnew a h).2.2.2.2; omega⟩⟩ dX12_keep_303
                        · have hpp := x10_m hx10 (i := j) (by omega)
                          have hps := pp_spec (F := F) (fp := nP tb (U2 F (mt (nf + j) + 4))) (ln := nL F tb (U2 F (mt (nf + j) + 4))) hpp.1
                          have hile := ppI_le F (nP tb (U2 F (mt (nf + j) + 4))) (nL F tb (U2 F (mt (nf + j) + 4)))
                          have hlnn := (hLc.nm (x9_m hx9 (i := nf + j) (by omega)).2.1).2.2.2.2.1
                          obtain ⟨⟨k25, k26, k27, k28, k30, k29⟩, hrw9, k40, k41, hnb9⟩ := hnew j (by omega)
                          have hmi := (hMt (nf + j) (by omega)).2.1
                          refine lv_aload_n C.1 C.2.1 dX12_keep_144 rfl (lv_at hl 1 rfl) ?_
                          refine lv_aload_n C.1 C.2.1 dX12_keep_145 rfl (lv_at hl 1 rfl) ?_
                          refine m_get C hM 20 (v := .ref (ad 20)) (by decide) zw_5_4 rfl rfl dX12_keep_146 ?_
                          refine lv_aload_n C.1 C.2.1 dX12_keep_149 rfl (lv_at hl 1 rfl) ?_
                          refine m_get C hM 18 (v := .int (σ1.1 18)) (by decide) zw_26_0 rfl rfl dX12_keep_150 ?_
                          refine z_re (y := zI ((nf : Nat) : Int)) ((hc.1 18 (by decide)).trans hL.2.2.2.2.2.2.2.1) ?_
                          refine lv_iload_n C.1 C.2.1 dX12_keep_153 rfl (lv_at hl 0 rfl) ?_
                          refine y_iaddN C (a := nf) (b := j) dX12_keep_154 ?_
                          refine m_ald C hM 20 (by decide) (nf + j) (t := ((nf + j : Nat) : Int)) rfl (by show _ < 48; omega) dX12_keep_155 ?_
                          refine z_re (y := zI ((mt (nf + j) : Nat) : Int)) ((congrFun (hc.2.1 20 (by decide)) (nf + j)).trans (hMt (nf + j) (by omega)).1) ?_
                          refine lv_iconst (v := zI 4) C.1 C.2.1 dX12_keep_156 (by decide) ?_
                          refine y_iaddN C (a := mt (nf + j)) (b := 4) dX12_keep_157 ?_
                          refine z_readV C (As := [zN ((mt (nf + j)) + 4)]) (rest := []) (c_X12_two l Z hM hB ((mt (nf + j)) + 4) rfl (by omega)) hM.1 rfl ⟨⟨zw_27_11, zw_1_5, zw_27_8⟩, zd_X12_two⟩ zw_27_9 zw_27_10 ⟨Nat.le_of_ble_eq_true rfl, Nat.le_of_ble_eq_true rfl⟩ ⟨rfl, rfl⟩ rfl hl.1 rfl (Nat.le_of_ble_eq_true rfl) dX12_keep_158 ⟨Nat.zero_le _, Nat.zero_le _⟩ hS (fun locs hS => ?_)
                          have := U2_lt hB.1 ((mt (nf + j)) + 4)
                          refine lv_istore_n (lv' := [(2, zN (U2 F ((mt (nf + j)) + 4))), (1, zN j), (0, .ref o)]) C.1 C.2.1 dX12_keep_161 rfl hl (by decide) rfl (fun ls hl => ?_)
                          refine lv_iconst (v := zI 0) C.1 C.2.1 dX12_keep_162 (by decide) ?_
                          refine lv_istore_n (lv' := [(3, zN 0), (2, zN (U2 F ((mt (nf + j)) + 4))), (1, zN j), (0, .ref o)]) C.1 C.2.1 dX12_keep_163 rfl hl (by decide) rfl (fun ls hl => ?_)
                          have loopW : ∀ (fy : Nat) (i : Nat) (ls : Array Slot) (locs : List Loc), va_S (mA o ad) s.heap H locs → (i + fy = (ppI F (nP tb (U2 F (mt (nf + j) + 4))) (nL F tb (U2 F (mt (nf + j) + 4)))).1 + 1 ∧ i ≤ (ppI F (nP tb (U2 F (mt (nf + j) + 4))) (nL F tb (U2 F (mt (nf + j) + 4)))).1) → lv_has ls 4 [(3, zN i), (2, zN (U2 F (mt (nf + j) + 4))), (1, zN j), (0, .ref o)] → W p l e (rmk 5) s m args below meth c H locs 0 0 Q (F0 m 164 ls []) := by
                            intro fy
                            induction fy with
                            | zero =>
                              intro i ls locs hS hi hl
                              omega
                            | succ fy ih_loopW =>
                              intro i ls locs hS hi hl
                              refine lv_aload_n C.1 C.2.1 dX12_keep_164 rfl (lv_at hl 3 rfl) ?_
                              refine lv_iload_n C.1 C.2.1 dX12_keep_165 rfl (lv_at hl 1 rfl) ?_
                              refine lv_iload_n C.1 C.2.1 dX12_keep_166 rfl (lv_at hl 0 rfl) ?_
                              refine z_readV C (As := [zN (U2 F (mt (nf + j) + 4)), zN i]) (rest := []) (c_X12_letter l Z hM hB (hLc.nm (x9_m hx9 (i := nf + j) (by omega)).2.1) i rfl (by omega)) hM.1 rfl ⟨⟨zw_30_2, zw_1_5, zw_29_23⟩, zd_X12_letter⟩ zw_30_0 zw_30_1 ⟨Nat.le_of_ble_eq_true rfl, Nat.le_of_ble_eq_true rfl⟩ ⟨rfl, rfl⟩ rfl hl.1 rfl (Nat.le_of_ble_eq_true rfl) dX12_keep_167 ⟨Nat.zero_le _, Nat.zero_le _⟩ hS (fun locs hS => ?_)
                              have hlt := nmC_lt hB.1 (nP tb (U2 F (mt (nf + j) + 4))) (nL F tb (U2 F (mt (nf + j) + 4))) i
                              refine lv_bipush (v := zI 41) C.1 C.2.1 dX12_keep_170 (by decide) ?_
                              refine y_icmp_eq (tgt := 181) C (a := ((nmC F (nP tb (U2 F (mt (nf + j) + 4))) (nL F tb (U2 F (mt (nf + j) + 4))) i : Nat) : Int)) (b := 41) dX12_keep_172 (by decide) (by omega) (fun h172 => ?_) (fun h172 => ?_)
                              · have hie : i = (ppI F (nP tb (U2 F (mt (nf + j) + 4))) (nL F tb (U2 F (mt (nf + j) + 4)))).1 := by
                                  rcases Nat.lt_or_ge i (ppI F (nP tb (U2 F (mt (nf + j) + 4))) (nL F tb (U2 F (mt (nf + j) + 4)))).1 with z | z
                                  · exact absurd (show nmC F (nP tb (U2 F (mt (nf + j) + 4))) (nL F tb (U2 F (mt (nf + j) + 4))) i = 41 by omega) (hps.2.2.1 i z)
                                  · omega
                                refine lv_aload_n C.1 C.2.1 dX12_keep_181 rfl (lv_at hl 3 rfl) ?_
                                refine m_get C hM 49 (v := .ref (ad 49)) (by decide) zw_5_22 rfl rfl dX12_keep_182 ?_
                                refine lv_iload_n C.1 C.2.1 dX12_keep_185 rfl (lv_at hl 2 rfl) ?_
                                refine lv_aload_n C.1 C.2.1 dX12_keep_186 rfl (lv_at hl 3 rfl) ?_
                                refine m_get C hM 40 (v := .ref (ad 40)) (by decide) zw_5_18 rfl rfl dX12_keep_187 ?_
                                refine lv_iload_n C.1 C.2.1 dX12_keep_190 rfl (lv_at hl 2 rfl) ?_
                                refine m_ald C hM 40 (by decide) j (t := ((j : Nat) : Int)) rfl (by show _ < 24; omega) dX12_keep_191 ?_
                                refine z_re (y := zI ((nB F tb mt nf j : Nat) : Int)) ((congrFun (hc.2.1 40 (by decide)) j).trans k40) ?_
                                refine m_ast C hM 49 (by decide) j (t := ((j : Nat) : Int)) rfl (by show _ < 24; omega) hS dX12_keep_192 (fun H locs hM hS => ?_)
                                refine lv_aload_n C.1 C.2.1 dX12_keep_193 rfl (lv_at hl 3 rfl) ?_
                                refine m_get C hM 48 (v := .ref (ad 48)) (by decide) zw_5_21 rfl rfl dX12_keep_194 ?_
                                refine lv_bipush (v := zI 6) C.1 C.2.1 dX12_keep_197 (by decide) ?_
                                refine lv_iload_n C.1 C.2.1 dX12_keep_199 rfl (lv_at hl 2 rfl) ?_
                                refine y_imulN C (a := 6) (b := j) dX12_keep_200 ?_
                                refine lv_aload_n C.1 C.2.1 dX12_keep_201 rfl (lv_at hl 3 rfl) ?_
                                refine m_get C hM 41 (v := .ref (ad 41)) (by decide) zw_5_19 rfl rfl dX12_keep_202 ?_
                                refine lv_iload_n C.1 C.2.1 dX12_keep_205 rfl (lv_at hl 2 rfl) ?_
                                refine m_ald C hM 41 (by decide) j (t := ((j : Nat) : Int)) rfl (by show _ < 24; omega) dX12_keep_206 ?_
                                refine z_re (y := zI ((nWf F tb mt nf j : Nat) : Int)) ((congrFun (hc.2.1 41 (by decide)) j).trans k41) ?_
                                refine m_ast C hM 48 (by decide) (6 * j) (t := ((6 * j : Nat) : Int)) rfl (by show _ < 144; omega) hS dX12_keep_207 (fun H locs hM hS => ?_)
                                refine lv_aload_n C.1 C.2.1 dX12_keep_208 rfl (lv_at hl 3 rfl) ?_
                                refine m_get C hM 48 (v := .ref (ad 48)) (by decide) zw_5_21 rfl rfl dX12_keep_209 ?_
                                refine lv_bipush (v := zI 6) C.1 C.2.1 dX12_keep_212 (by decide) ?_
                                refine lv_iload_n C.1 C.2.1 dX12_keep_214 rfl (lv_at hl 2 rfl) ?_
                                refine y_imulN C (a := 6) (b := j) dX12_keep_215 ?_
                                refine lv_iconst (v := zI 1) C.1 C.2.1 dX12_keep_216 (by decide) ?_
                                refine y_iaddN C (a := 6 * j) (b := 1) dX12_keep_217 ?_
                                refine lv_aload_n C.1 C.2.1 dX12_keep_218 rfl (lv_at hl 3 rfl) ?_
                                refine m_get C hM 25 (v := .ref (ad 25)) (by decide) zw_5_7 rfl rfl dX12_keep_219 ?_
                                refine lv_iload_n C.1 C.2.1 dX12_keep_222 rfl (lv_at hl 2 rfl) ?_
                                refine m_ald C hM 25 (by decide) j (t := ((j : Nat) : Int)) rfl (by show _ < 24; omega) dX12_keep_223 ?_
                                refine z_re (y := zI ((U2 F (cP F tb mt nf j + 6) : Nat) : Int)) ((congrFun (hc.2.1 25 (by decide)) j).trans k25) ?_
                                refine m_ast C hM 48 (by decide) ((6 * j) + 1) (t := (((6 * j) + 1 : Nat) : Int)) rfl (by show _ < 144; omega) hS dX12_keep_224 (fun H locs hM hS => ?_)
                                refine lv_aload_n C.1 C.2.1 dX12_keep_225 rfl (lv_at hl 3 rfl) ?_
                                refine m_get C hM 48 (v := .ref (ad 48)) (by decide) zw_5_21 rfl rfl dX12_keep_226 ?_
                                refine lv_bipush (v := zI 6) C.1 C.2.1 dX12_keep_229 (by decide) ?_
                                refine lv_iload_n C.1 C.2.1 dX12_keep_231 rfl (lv_at hl 2 rfl) ?_
                                refine y_imulN C (a := 6) (b := j) dX12_keep_232 ?_
                                refine lv_iconst (v := zI 2) C.1 C.2.1 dX12_keep_233 (by decide) ?_
                                refine y_iaddN C (a := 6 * j) (b := 2) dX12_keep_234 ?_
                                refine lv_aload_n C.1 C.2.1 dX12_keep_235 rfl (lv_at hl 3 rfl) ?_
                                refine m_get C hM 26 (v := .ref (ad 26)) (by decide) zw_5_8 rfl rfl dX12_keep_236 ?_
                                refine lv_iload_n C.1 C.2.1 dX12_keep_239 rfl (lv_at hl 2 rfl) ?_
                                refine m_ald C hM 26 (by decide) j (t := ((j : Nat) : Int)) rfl (by show _ < 24; omega) dX12_keep_240 ?_
                                refine z_re (y := zI ((U2 F (cP F tb mt nf j + 8) : Nat) : Int)) ((congrFun (hc.2.1 26 (by decide)) j).trans k26) ?_
                                refine m_ast C hM 48 (by decide) ((6 * j) + 2) (t := (((6 * j) + 2 : Nat) : Int)) rfl (by show _ < 144; omega) hS dX12_keep_241 (fun H locs hM hS => ?_)
                                refine lv_aload_n C.1 C.2.1 dX12_keep_242 rfl (lv_at hl 3 rfl) ?_
                                refine m_get C hM 48 (v := .ref (ad 48)) (by decide) zw_5_21 rfl rfl dX12_keep_243 ?_
                                refine lv_bipush (v := zI 6) C.1 C.2.1 dX12_keep_246 (by decide) ?_
                                refine lv_iload_n C.1 C.2.1 dX12_keep_248 rfl (lv_at hl 2 rfl) ?_
                                refine y_imulN C (a := 6) (b := j) dX12_keep_249 ?_
                                refine lv_iconst (v := zI 3) C.1 C.2.1 dX12_keep_250 (by decide) ?_
                                refine y_iaddN C (a := 6 * j) (b := 3) dX12_keep_251 ?_
                                refine lv_aload_n C.1 C.2.1 dX12_keep_252 rfl (lv_at hl 3 rfl) ?_
                                refine lv_iload_n C.1 C.2.1 dX12_keep_253 rfl (lv_at hl 1 rfl) ?_
                                refine z_readV C (As := [zN (U2 F (mt (nf + j) + 4))]) (rest := [zN ((6 * j) + 3), .ref (ad 48)]) (c_X12_parameterPlaces l Z hM hB (hLc.nm (x9_m hx9 (i := nf + j) (by omega)).2.1)) hM.1 rfl ⟨⟨zw_30_6, zw_1_5, zw_30_3⟩, zd_X12_parameterPlaces⟩ zw_30_4 zw_30_5 ⟨Nat.le_of_ble_eq_true rfl, Nat.le_of_ble_eq_true rfl⟩ ⟨rfl, rfl⟩ rfl hl.1 rfl (Nat.le_of_ble_eq_true rfl) dX12_keep_254 ⟨Nat.zero_le _, Nat.zero_le _⟩ hS (fun locs hS => ?_)
                                refine m_ast C hM 48 (by decide) ((6 * j) + 3) (t := (((6 * j) + 3 : Nat) : Int)) rfl (by show _ < 144; omega) hS dX12_keep_257 (fun H locs hM hS => ?_)
                                refine lv_aload_n C.1 C.2.1 dX12_keep_258 rfl (lv_at hl 3 rfl) ?_
                                refine m_get C hM 48 (v := .ref (ad 48)) (by decide) zw_5_21 rfl rfl dX12_keep_259 ?_
                                refine lv_bipush (v := zI 6) C.1 C.2.1 dX12_keep_262 (by decide) ?_
                                refine lv_iload_n C.1 C.2.1 dX12_keep_264 rfl (lv_at hl 2 rfl) ?_
                                refine y_imulN C (a := 6) (b := j) dX12_keep_265 ?_
                                refine lv_iconst (v := zI 4) C.1 C.2.1 dX12_keep_266 (by decide) ?_
                                refine y_iaddN C (a := 6 * j) (b := 4) dX12_keep_267 ?_
                                refine lv_aload_n C.1 C.2.1 dX12_keep_268 rfl (lv_at hl 3 rfl) ?_
                                refine m_get C hM 30 (v := .ref (ad 30)) (by decide) zw_5_12 rfl rfl dX12_keep_269 ?_
                                refine lv_iload_n C.1 C.2.1 dX12_keep_272 rfl (lv_at hl 2 rfl) ?_
                                refine m_ald C hM 30 (by decide) j (t := ((j : Nat) : Int)) rfl (by show _ < 24; omega) dX12_keep_273 ?_
                                refine z_re (y := zI ((cN F (cP F tb mt nf j) : Nat) : Int)) ((congrFun (hc.2.1 30 (by decide)) j).trans k30) ?_
                                refine m_ast C hM 48 (by decide) ((6 * j) + 4) (t := (((6 * j) + 4 : Nat) : Int)) rfl (by show _ < 144; omega) hS dX12_keep_274 (fun H locs hM hS => ?_)
                                refine lv_aload_n C.1 C.2.1 dX12_keep_275 rfl (lv_at hl 3 rfl) ?_
                                refine m_get C hM 48 (v := .ref (ad 48)) (by decide) zw_5_21 rfl rfl dX12_keep_276 ?_
                                refine lv_bipush (v := zI 6) C.1 C.2.1 dX12_keep_279 (by decide) ?_
                                refine lv_iload_n C.1 C.2.1 dX12_keep_281 rfl (lv_at hl 2 rfl) ?_
                                refine y_imulN C (a := 6) (b := j) dX12_keep_282 ?_
                                refine lv_iconst (v := zI 5) C.1 C.2.1 dX12_keep_283 (by decide) ?_
                                refine y_iaddN C (a := 6 * j) (b := 5) dX12_keep_284 ?_
                                refine lv_aload_n C.1 C.2.1 dX12_keep_285 rfl (lv_at hl 3 rfl) ?_
                                refine lv_iload_n C.1 C.2.1 dX12_keep_286 rfl (lv_at hl 1 rfl) ?_
                                refine lv_iload_n C.1 C.2.1 dX12_keep_287 rfl (lv_at hl 0 rfl) ?_
                                refine lv_iconst (v := zI 1) C.1 C.2.1 dX12_keep_288 (by decide) ?_
                                refine y_iaddN C (a := i) (b := 1) dX12_keep_289 ?_
                                refine z_readV C (As := [zN (U2 F (mt (nf + j) + 4)), zN (i + 1)]) (rest := [zN ((6 * j) + 5), .ref (ad 48)]) (c_X12_letter l Z hM hB (hLc.nm (x9_m hx9 (i := nf + j) (by omega)).2.1) (i + 1) rfl (by omega)) hM.1 rfl ⟨⟨zw_30_2, zw_1_5, zw_29_23⟩, zd_X12_letter⟩ zw_30_0 zw_30_1 ⟨Nat.le_of_ble_eq_true rfl, Nat.le_of_ble_eq_true rfl⟩ ⟨rfl, rfl⟩ rfl hl.1 rfl (Nat.le_of_ble_eq_true rfl) dX12_keep_290 ⟨Nat.zero_le _, Nat.zero_le _⟩ hS (fun locs hS => ?_)
                                have hlt := nmC_lt hB.1 (nP tb (U2 F (mt (nf + j) + 4))) (nL F tb (U2 F (mt (nf + j) + 4))) (i + 1)
                                refine z_readS C (As := [zN (nmC F (nP tb (U2 F (mt (nf + j) + 4))) (nL F tb (U2 F (mt (nf + j) + 4))) (i + 1))]) (rest := [zN ((6 * j) + 5), .ref (ad 48)]) (c_X12_kindOf l Z (nmC F (nP tb (U2 F (mt (nf + j) + 4))) (nL F tb (U2 F (mt (nf + j) + 4))) (i + 1)) rfl (by omega)) ⟨⟨zw_35_23, zw_1_5, zw_35_21⟩, zd_X12_kindOf⟩ zw_35_22 ⟨Nat.le_of_ble_eq_true rfl, Nat.le_of_ble_eq_true rfl⟩ ⟨rfl, rfl⟩ rfl hl.1 rfl (Nat.le_of_ble_eq_true rfl) dX12_keep_293 ⟨Nat.zero_le _, Nat.zero_le _⟩ hS (fun locs hS => ?_)
                                refine z_re (y := zI (rsN F tb (U2 F (mt (nf + j) + 4)))) (by rw [hie]; rfl) ?_
                                refine m_ast C hM 48 (by decide) ((6 * j) + 5) (t := (((6 * j) + 5 : Nat) : Int)) rfl (by show _ < 144; omega) hS dX12_keep_296 (fun H locs hM hS => ?_)
                                refine lv_iinc (v := zI ((j + 1 : Nat) : Int)) (lv' := [(1, zN (j + 1)), (3, zN i), (2, zN (U2 F (mt (nf + j) + 4))), (0, .ref o)]) C.1 C.2.1 dX12_keep_297 hl (k := 2) rfl (zI_add _ _) (by decide) rfl (fun ls hl => ?_)
                                refine lv_goto (tgt := 136) C.1 C.2.1 dX12_keep_300 (by decide) ?_
                                exact ih_loopM (j + 1) _ _ ls _ hS hM (by omega) (chg_sf (by decide) (chg_sf (by decide) (chg_sf (by decide) (chg_sf (by decide) (chg_sf (by decide) (chg_sf (by decide) (chg_sf (by decide) hc))))))) g43 g44 g45 g46 hr ht hf (fun a h => by rcases Nat.lt_succ_iff_lt_or_eq.mp h with h | h; (obtain ⟨u0, u1, u2, u3, u4, u5, u6⟩ := hh a h; exact ⟨(upd6.2 _ (by omega)).trans u0, (upd6.2 _ (by omega)).trans u1, (upd6.2 _ (by omega)).trans u2, (upd6.2 _ (by omega)).trans u3, (upd6.2 _ (by omega)).trans u4, (upd6.2 _ (by omega)).trans u5, (upd_ne (by omega)).trans u6⟩); (subst h; exact ⟨upd6.1.1, upd6.1.2.1, upd6.1.2.2.1, upd6.1.2.2.2.1, upd6.1.2.2.2.2.1, upd6.1.2.2.2.2.2, upd_2⟩)) (lv_sub hl [0, 3] rfl)
                              · have hne : i < (ppI F (nP tb (U2 F (mt (nf + j) + 4))) (nL F tb (U2 F (mt (nf + j) + 4)))).1 := Nat.lt_of_le_of_ne hi.2 (fun z => by rw [z] at h172; omega)
                                refine lv_iinc (v := zI ((i + 1 : Nat) : Int)) (lv' := [(3, zN (i + 1)), (2, zN (U2 F (mt (nf + j) + 4))), (1, zN j), (0, .ref o)]) C.1 C.2.1 dX12_keep_175 hl (k := 0) rfl (zI_add _ _) (by decide) rfl (fun ls hl => ?_)
                                refine lv_goto (tgt := 164) C.1 C.2.1 dX12_keep_178 (by decide) ?_
                                exact ih_loopW (i + 1) ls _ hS (by omega) hl
                          exact loopW ((ppI F (nP tb (U2 F (mt (nf + j) + 4))) (nL F tb (U2 F (mt (nf + j) + 4)))).1 + 1) 0 ls _ hS (by omega) hl
                    exact loopM (nm + 1) 0 _ _ ls _ hS hM (by omega) (hc) g43 g44 g45 g46 hr ht (fun a h => hf a (by omega)) (fun a h => absurd h (Nat.not_lt_zero a)) hl
                  · have hmi := (hMt k (by omega)).2.1
                    refine lv_aload_n C.1 C.2.1 dX12_keep_102 rfl (lv_at hl 1 rfl) ?_
                    refine m_get C hM 47 (v := .ref (ad 47)) (by decide) zw_5_20 rfl rfl dX12_keep_103 ?_
                    refine lv_iload_n C.1 C.2.1 dX12_keep_106 rfl (lv_at hl 0 rfl) ?_
                    refine lv_aload_n C.1 C.2.1 dX12_keep_107 rfl (lv_at hl 1 rfl) ?_
                    refine lv_aload_n C.1 C.2.1 dX12_keep_108 rfl (lv_at hl 1 rfl) ?_
                    refine lv_aload_n C.1 C.2.1 dX12_keep_109 rfl (lv_at hl 1 rfl) ?_
                    refine m_get C hM 20 (v := .ref (ad 20)) (by decide) zw_5_4 rfl rfl dX12_keep_110 ?_
                    refine lv_iload_n C.1 C.2.1 dX12_keep_113 rfl (lv_at hl 0 rfl) ?_
                    refine m_ald C hM 20 (by decide) k (t := ((k : Nat) : Int)) rfl (by show _ < 48; omega) dX12_keep_114 ?_
                    refine z_re (y := zI ((mt k : Nat) : Int)) ((congrFun (hc.2.1 20 (by decide)) k).trans (hMt k (by omega)).1) ?_
                    refine lv_iconst (v := zI 4) C.1 C.2.1 dX12_keep_115 (by decide) ?_
                    refine y_iaddN C (a := mt k) (b := 4) dX12_keep_116 ?_
                    refine z_readV C (As := [zN ((mt k) + 4)]) (rest := [.ref o, zN k, .ref (ad 47)]) (c_X12_two l Z hM hB ((mt k) + 4) rfl (by omega)) hM.1 rfl ⟨⟨zw_27_11, zw_1_5, zw_27_8⟩, zd_X12_two⟩ zw_27_9 zw_27_10 ⟨Nat.le_of_ble_eq_true rfl, Nat.le_of_ble_eq_true rfl⟩ ⟨rfl, rfl⟩ rfl hl.1 rfl (Nat.le_of_ble_eq_true rfl) dX12_keep_117 ⟨Nat.zero_le _, Nat.zero_le _⟩ hS (fun locs hS => ?_)
                    have := U2_lt hB.1 ((mt k) + 4)
                    refine lv_iconst (v := zI 0) C.1 C.2.1 dX12_keep_120 (by decide) ?_
                    refine z_readV C (As := [zN (U2 F ((mt k) + 4)), zN 0]) (rest := [zN k, .ref (ad 47)]) (c_X12_letter l Z hM hB (hLc.nm (x9_m hx9 (i := k) (by omega)).2.1) 0 rfl (by omega)) hM.1 rfl ⟨⟨zw_30_2, zw_1_5, zw_29_23⟩, zd_X12_letter⟩ zw_30_0 zw_30_1 ⟨Nat.le_of_ble_eq_true rfl, Nat.le_of_ble_eq_true rfl⟩ ⟨rfl, rfl⟩ rfl hl.1 rfl (Nat.le_of_ble_eq_true rfl) dX12_keep_121 ⟨Nat.zero_le _, Nat.zero_le _⟩ hS (fun locs hS => ?_)
                    have hlt := nmC_lt hB.1 (nP tb (U2 F ((mt k) + 4))) (nL F tb (U2 F ((mt k) + 4))) 0
                    refine z_readS C (As := [zN (nmC F (nP tb (U2 F ((mt k) + 4))) (nL F tb (U2 F ((mt k) + 4))) 0)]) (rest := [zN k, .ref (ad 47)]) (c_X12_kindOf l Z (nmC F (nP tb (U2 F ((mt k) + 4))) (nL F tb (U2 F ((mt k) + 4))) 0) rfl (by omega)) ⟨⟨zw_35_23, zw_1_5, zw_35_21⟩, zd_X12_kindOf⟩ zw_35_22 ⟨Nat.le_of_ble_eq_true rfl, Nat.le_of_ble_eq_true rfl⟩ ⟨rfl, rfl⟩ rfl hl.1 rfl (Nat.le_of_ble_eq_true rfl) dX12_keep_124 ⟨Nat.zero_le _, Nat.zero_le _⟩ hS (fun locs hS => ?_)
                    refine z_re (y := zI (fyN F tb (U2 F (mt k + 4)))) rfl ?_
                    refine m_ast C hM 47 (by decide) k (t := ((k : Nat) : Int)) rfl (by show _ < 24; omega) hS dX12_keep_127 (fun H locs hM hS => ?_)
                    refine lv_iinc (v := zI ((k + 1 : Nat) : Int)) (lv' := [(1, zN (k + 1)), (0, .ref o)]) C.1 C.2.1 dX12_keep_128 hl (k := 0) rfl (zI_add _ _) (by decide) rfl (fun ls hl => ?_)
                    refine lv_goto (tgt := 94) C.1 C.2.1 dX12_keep_131 (by decide) ?_
                    exact ih_loopF (k + 1) _ _ ls _ hS hM (by omega) (chg_sf (by decide) hc) g43 g44 g45 g46 hr ht (fun a h => by rcases Nat.lt_succ_iff_lt_or_eq.mp h with h | h; (exact (upd_ne (by omega)).trans (hf a h)); (subst h; exact upd_2)) hl
              exact loopF (nf + 1) 0 _ _ ls _ hS hM (by omega) (hc) g43 g44 g45 g46 hr (fun a h => ht a (by omega)) (fun a h => absurd h (Nat.not_lt_zero a)) hl
            · refine lv_aload_n C.1 C.2.1 dX12_keep_74 rfl (lv_at hl 1 rfl) ?_
              refine m_get C hM 51 (v := .ref (ad 51)) (by decide) zw_6_0 rfl rfl dX12_keep_75 ?_
              refine lv_iload_n C.1 C.2.1 dX12_keep_78 rfl (lv_at hl 0 rfl) ?_
              refine lv_aload_n C.1 C.2.1 dX12_keep_79 rfl (lv_at hl 1 rfl) ?_
              refine m_get C hM 38 (v := .ref (ad 38)) (by decide) zw_5_17 rfl rfl dX12_keep_80 ?_
              refine lv_iload_n C.1 C.2.1 dX12_keep_83 rfl (lv_at hl 0 rfl) ?_
              refine m_ald C hM 38 (by decide) k (t := ((k : Nat) : Int)) rfl (by show _ < 40000; omega) dX12_keep_84 ?_
              refine m_ast C hM 51 (by decide) k (t := ((k : Nat) : Int)) rfl (by show _ < 40000; omega) hS dX12_keep_85 (fun H locs hM hS => ?_)
              refine lv_iinc (v := zI ((k + 1 : Nat) : Int)) (lv' := [(1, zN (k + 1)), (0, .ref o)]) C.1 C.2.1 dX12_keep_86 hl (k := 0) rfl (zI_add _ _) (by decide) rfl (fun ls hl => ?_)
              refine lv_goto (tgt := 66) C.1 C.2.1 dX12_keep_89 (by decide) ?_
              exact ih_loopT (k + 1) _ _ ls _ hS hM (by omega) (chg_sf (by decide) hc) g43 g44 g45 g46 hr (fun a h => by rcases Nat.lt_succ_iff_lt_or_eq.mp h with h | h; (exact (upd_ne (by omega)).trans (ht a h)); (subst h; exact upd_2.trans (congrFun (hc.2.1 38 (by decide)) _))) hl
        exact loopT (te + 1) 0 _ _ ls _ hS hM (by omega) (hc) g43 g44 g45 g46 (fun a h => hr a (by omega)) (fun a h => absurd h (Nat.not_lt_zero a)) hl
      · refine lv_aload_n C.1 C.2.1 dX12_keep_46 rfl (lv_at hl 1 rfl) ?_
        refine m_get C hM 50 (v := .ref (ad 50)) (by decide) zw_5_23 rfl rfl dX12_keep_47 ?_
        refine lv_iload_n C.1 C.2.1 dX12_keep_50 rfl (lv_at hl 0 rfl) ?_
        refine lv_aload_n C.1 C.2.1 dX12_keep_51 rfl (lv_at hl 1 rfl) ?_
        refine m_get C hM 36 (v := .ref (ad 36)) (by decide) zw_5_15 rfl rfl dX12_keep_52 ?_
        refine lv_iload_n C.1 C.2.1 dX12_keep_55 rfl (lv_at hl 0 rfl) ?_
        refine m_ald C hM 36 (by decide) k (t := ((k : Nat) : Int)) rfl (by show _ < 86400; omega) dX12_keep_56 ?_
        refine m_ast C hM 50 (by decide) k (t := ((k : Nat) : Int)) rfl (by show _ < 86400; omega) hS dX12_keep_57 (fun H locs hM hS => ?_)
        refine lv_iinc (v := zI ((k + 1 : Nat) : Int)) (lv' := [(1, zN (k + 1)), (0, .ref o)]) C.1 C.2.1 dX12_keep_58 hl (k := 0) rfl (zI_add _ _) (by decide) rfl (fun ls hl => ?_)
        refine lv_goto (tgt := 36) C.1 C.2.1 dX12_keep_61 (by decide) ?_
        exact ih_loopR (k + 1) _ _ ls _ hS hM (by omega) (chg_sf (by decide) hc) g43 g44 g45 g46 (fun a h => by rcases Nat.lt_succ_iff_lt_or_eq.mp h with h | h; (exact (upd_ne (by omega)).trans (hr a h)); (subst h; exact upd_2.trans (congrFun (hc.2.1 36 (by decide)) _))) hl
  exact loopR (3 * nb + 1) 0 _ _ ls _ hS hM (by omega) (chg_sx (by decide) (chg_sx (by decide) (chg_sx (by decide) (chg_sx (by decide) chg.rf)))) rfl rfl (zI_c (by omega)) rfl (fun a h => absurd h (Nat.not_lt_zero a)) hl
