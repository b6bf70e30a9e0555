/-! the model: member -/
theorem x6_cls {F tb : Nat → Nat} {pc : Nat} (h : x6 F tb pc = none) {k : Nat} (hk : isE F tb pc k 7 = true) : isE F tb pc (e1 F tb k) 1 = true := by
  obtain ⟨h1, h2, h3⟩ := isE_t hk
  have g := x6_k h h1 h2
  unfold good6 at g
  rw [if_pos h3] at g
  exact g
theorem x8_own {F tb : Nat → Nat} {pc cl : Nat} (h : x8 F tb pc cl = none) : isE F tb pc (U2 F (cl + 2)) 7 = true := by
  unfold x8 at h
  by_cases g : isE F tb pc (U2 F (cl + 2)) 7 = true
  · exact g
  · rw [Bool.not_eq_true] at g
    rw [if_pos g] at h
    exact absurd h (by simp)
def mtc (F tb mt : Nat → Nat) (i a b : Nat) : Bool := sameK F tb (U2 F (mt i + 2)) a && sameK F tb (U2 F (mt i + 4)) b
/-- the last of the members lo .. lo + c - 1 that has the name a and the type b, told from lo; -1 if none -/
def fnL (F tb mt : Nat → Nat) (a b lo : Nat) : Nat → Int
  | 0 => -1
  | c + 1 => if mtc F tb mt (lo + c) a b = true then (c : Int) else fnL F tb mt a b lo c
theorem fnL_t {F tb mt : Nat → Nat} {a b lo c i : Nat} (hi : i = lo + c) (h : mtc F tb mt i a b = true) : fnL F tb mt a b lo (c + 1) = (c : Int) := by
  subst hi
  conv => lhs; unfold fnL
  rw [if_pos h]
theorem fnL_f {F tb mt : Nat → Nat} {a b lo c i : Nat} (hi : i = lo + c) (h : mtc F tb mt i a b = false) : fnL F tb mt a b lo (c + 1) = fnL F tb mt a b lo c := by
  subst hi
  conv => lhs; unfold fnL
  rw [if_neg (by rw [h]; decide)]
theorem fnL_rg (F tb mt : Nat → Nat) (a b lo : Nat) : ∀ c, -1 ≤ fnL F tb mt a b lo c ∧ fnL F tb mt a b lo c < c := by
  intro c
  induction c with
  | zero => exact ⟨by show (-1 : Int) ≤ -1; omega, by show (-1 : Int) < 0; omega⟩
  | succ c ih =>
    unfold fnL
    split <;> omega
/-- the number of the member that entry k, of tag g, tells; -1 if it tells none of this class -/
def mbR (F tb mt : Nat → Nat) (pc cl nf nm k g : Nat) : Int :=
  if isE F tb pc k g = true ∧ sameK F tb (e1 F tb (e1 F tb k)) (e1 F tb (U2 F (cl + 2))) = true then
    (if g = 9 then fnL F tb mt (e1 F tb (e2 F tb k)) (e2 F tb (e2 F tb k)) 0 nf else fnL F tb mt (e1 F tb (e2 F tb k)) (e2 F tb (e2 F tb k)) nf nm) else -1

set_option maxHeartbeats 4000000 in
set_option maxRecDepth 20000 in
theorem c_X12_member (l : Launch) (Z : zT) {H : Heap} {o : Nat} {ad : Nat → Nat} {σ : mS} (hM : isM Z H o ad σ) {F : Nat → Nat} {n : Nat} (hB : mSrc σ F n) {cl nf nm fa last : Nat} {tb mt : Nat → Nat} (hL : mLay σ F n tb cl nf nm mt fa last) (hx6 : x6 F tb (U2 F 8) = none) (hx8 : x8 F tb (U2 F 8) cl = none) (hx9 : x9 F tb (U2 F 8) mt (nf + nm) fa = none) {ca : Nat} (h32 : σ.1 32 = zI (ca : Int)) (hca : ca ≤ 16000) (q g : Nat) (hq : q ≤ 1200) (hg : g = 9 ∨ g = 10) (h4 : ca + q + 2 < n) : zX l Z yX12_member cX12_member 9 (some .int) (rmk 6) [.ref o, zN q, zN g] H (mA o ad) 0 0 (fun v H' => 0 ≤ mbR F tb mt (U2 F 8) cl nf nm (U2 F (ca + (q + 1))) g ∧ v = some (zV (mbR F tb mt (U2 F 8) cl nf nm (U2 F (ca + (q + 1))) g)) ∧ isM Z H' o ad σ) (fun H' => mbR F tb mt (U2 F 8) cl nf nm (U2 F (ca + (q + 1))) g < 0 ∧ mBrk Z o ad [4, 5] [] σ 16 (ca + q) H') := by
  have hn := hB.2.2.2
  have hpc := hL.2.1
  have hcl := hL.2.2.2.2.2.1
  have hnf := hL.2.2.2.2.2.2.2.2.1
  have hnm := hL.2.2.2.2.2.2.2.2.2.1
  have hMt := hL.2.2.2.2.2.2.2.2.2.2.1
  have hna := hL.2.2.2.2.2.2.2.2.2.2.2.2.1
  have hfa := hL.2.2.2.2.2.2.2.2.2.2.2.2.2.1
  have hk2 := U2_lt hB.1 (ca + (q + 1))
  refine zX.introI (own := RX12) ⟨by decide, rfl⟩ (Nat.le_of_ble_eq_true rfl) ?_
  intro p e s m args below meth c Q ls hH C hl hth hret
  have hS : va_S (mA o ad) s.heap H [] := by rw [hH]; exact va_S.rf
  have hl : lv_has ls 9 [(0, .ref o), (1, zN q), (2, zN g)] := hl
  refine lv_aload_n C.1 C.2.1 dX12_member_0 rfl (lv_at hl 0 rfl) ?_
  refine lv_iload_n C.1 C.2.1 dX12_member_1 rfl (lv_at hl 1 rfl) ?_
  refine lv_iconst (v := zI 1) C.1 C.2.1 dX12_member_2 (by decide) ?_
  refine y_iaddN C (a := q) (b := 1) dX12_member_3 ?_
  refine z_readV C (As := [zN (q + 1)]) (rest := []) (c_X12_codeTwo l Z hM hB h32 (q + 1) rfl (by omega)) hM.1 rfl ⟨⟨zw_33_17, zw_1_5, zw_33_14⟩, zd_X12_codeTwo⟩ zw_33_15 zw_33_16 ⟨Nat.le_of_ble_eq_true rfl, Nat.le_of_ble_eq_true rfl⟩ ⟨rfl, rfl⟩ rfl hl.1 rfl (Nat.le_of_ble_eq_true rfl) dX12_member_4 ⟨Nat.zero_le _, Nat.zero_le _⟩ hS (fun locs hS => ?_)
  have := S2_rg hB.1 (ca + (q + 1))
  refine lv_ldcw (v := zI 65535) C.1 C.2.1 C.2.2.2.1 (C.2.2.2.2.1 _ zw_33_9) dX12_member_7 ?_
  refine lv_iand C.1 C.2.1 dX12_member_10 ?_
  refine z_re (y := zI ((U2 F (ca + (q + 1)) : Nat) : Int)) (and65535 hB.1 _) ?_
  refine lv_istore_n (lv' := [(3, zN (U2 F (ca + (q + 1)))), (0, .ref o), (1, zN q), (2, zN g)]) C.1 C.2.1 dX12_member_11 rfl hl (by decide) rfl (fun ls hl => ?_)
  refine lv_aload_n C.1 C.2.1 dX12_member_12 rfl (lv_at hl 1 rfl) ?_
  refine lv_aload_n C.1 C.2.1 dX12_member_13 rfl (lv_at hl 1 rfl) ?_
  refine lv_iload_n C.1 C.2.1 dX12_member_14 rfl (lv_at hl 0 rfl) ?_
  refine lv_iload_n C.1 C.2.1 dX12_member_15 rfl (lv_at hl 3 rfl) ?_
  refine z_readV C (As := [zN (U2 F (ca + (q + 1))), zN g]) (rest := [.ref o]) (c_X12_isEntry l Z hM hB hL (U2 F (ca + (q + 1))) g rfl (by omega) (by omega)) hM.1 rfl ⟨⟨zw_28_18, zw_1_5, zw_28_15⟩, zd_X12_isEntry⟩ zw_28_16 zw_28_17 ⟨Nat.le_of_ble_eq_true rfl, Nat.le_of_ble_eq_true rfl⟩ ⟨rfl, rfl⟩ rfl hl.1 rfl (Nat.le_of_ble_eq_true rfl) dX12_member_16 ⟨Nat.zero_le _, Nat.zero_le _⟩ hS (fun locs hS => ?_)
  refine lv_iload_n C.1 C.2.1 dX12_member_19 rfl (lv_at hl 2 rfl) ?_
  refine z_callVX C (As := [zV (bI (isE F tb (U2 F 8) (U2 F (ca + (q + 1))) g)), zN q]) (rest := []) (c_X12_point l Z hM h32 (by omega) (isE F tb (U2 F 8) (U2 F (ca + (q + 1))) g) q (by omega)) hM.1 rfl ⟨⟨zw_34_1, zw_1_5, zw_33_22⟩, zd_X12_point⟩ zw_33_23 zw_34_0 ⟨Nat.le_of_ble_eq_true rfl, Nat.le_of_ble_eq_true rfl⟩ ⟨rfl, rfl⟩ rfl hl.1 rfl (Nat.le_of_ble_eq_true rfl) dX12_member_20 ⟨Nat.zero_le _, Nat.zero_le _⟩ hS (fun _ h => h) (fun H9 locs9 q9 ce9 hp9 hS9 _ _ g1 g2 g3 => ?_) (fun v H locs hp hS _ _ => ?_)
  · exact hth _ _ _ _ _ _ _ hS9 (⟨(by unfold mbR; rw [if_neg (fun z => by rw [z.1] at hp9; exact absurd hp9.1 (by decide))]; decide), hp9.2⟩) g1 g2 g3
  obtain ⟨hb20, rfl, hM⟩ := hp
  obtain ⟨hp1, hp2, hp3⟩ := isE_t hb20
  obtain ⟨ht1, ht2, ht3⟩ := hL.ent (show U2 F (ca + (q + 1)) < 502 by omega) (by omega)
  have he := ht3.2.2.2.2.2.2.2.1 (by omega)
  obtain ⟨hm1, hm2⟩ := x6_mem hx6 hp1 hp2 (by omega)
  obtain ⟨hc1, hc2, hc3⟩ := isE_t hm1
  obtain ⟨hd1, hd2, hd3⟩ := hL.ent (show e1 F tb (U2 F (ca + (q + 1))) < 502 by omega) (by omega)
  have hce := hd3.2.2.2.2.2.2.1 (by omega)
  have hown := x8_own hx8
  obtain ⟨ho1, ho2, ho3⟩ := isE_t hown
  obtain ⟨hf1, hf2, hf3⟩ := hL.ent (show U2 F (cl + 2) < 502 by omega) (by omega)
  have hoe := hf3.2.2.2.2.2.2.1 (by omega)
  obtain ⟨hq1, hq2, hq3⟩ := isE_t hm2
  obtain ⟨hr1, hr2, hr3⟩ := hL.ent (show e2 F tb (U2 F (ca + (q + 1))) < 502 by omega) (by omega)
  have hpe := hr3.2.2.2.2.2.2.2.1 (by omega)
  refine lv_aload_n C.1 C.2.1 dX12_member_23 rfl (lv_at hl 1 rfl) ?_
  refine m_get C hM 14 (v := .ref (ad 14)) (by decide) zw_5_1 rfl rfl dX12_member_24 ?_
  refine lv_iload_n C.1 C.2.1 dX12_member_27 rfl (lv_at hl 0 rfl) ?_
  refine m_ald C hM 14 (by decide) (U2 F (ca + (q + 1))) (t := ((U2 F (ca + (q + 1)) : Nat) : Int)) rfl (by show _ < 502; omega) dX12_member_28 ?_
  refine z_re (y := zI ((e2 F tb (U2 F (ca + (q + 1))) : Nat) : Int)) he.2.1 ?_
  refine lv_istore (lv' := [(4, zN (e2 F tb (U2 F (ca + (q + 1))))), (3, zN (U2 F (ca + (q + 1)))), (0, .ref o), (1, zN q), (2, zN g)]) C.1 C.2.1 dX12_member_29 hl (by decide) rfl (fun ls hl => ?_)
  refine lv_aload_n C.1 C.2.1 dX12_member_31 rfl (lv_at hl 2 rfl) ?_
  refine lv_aload_n C.1 C.2.1 dX12_member_32 rfl (lv_at hl 2 rfl) ?_
  refine lv_aload_n C.1 C.2.1 dX12_member_33 rfl (lv_at hl 2 rfl) ?_
  refine m_get C hM 13 (v := .ref (ad 13)) (by decide) zw_5_0 rfl rfl dX12_member_34 ?_
  refine lv_aload_n C.1 C.2.1 dX12_member_37 rfl (lv_at hl 2 rfl) ?_
  refine m_get C hM 13 (v := .ref (ad 13)) (by decide) zw_5_0 rfl rfl dX12_member_38 ?_
  refine lv_iload_n C.1 C.2.1 dX12_member_41 rfl (lv_at hl 1 rfl) ?_
  refine m_ald C hM 13 (by decide) (U2 F (ca + (q + 1))) (t := ((U2 F (ca + (q + 1)) : Nat) : Int)) rfl (by show _ < 502; omega) dX12_member_42 ?_
  refine z_re (y := zI ((e1 F tb (U2 F (ca + (q + 1))) : Nat) : Int)) he.1 ?_
  refine m_ald C hM 13 (by decide) (e1 F tb (U2 F (ca + (q + 1)))) (t := ((e1 F tb (U2 F (ca + (q + 1))) : Nat) : Int)) rfl (by show _ < 502; omega) dX12_member_43 ?_
  refine z_re (y := zI ((e1 F tb (e1 F tb (U2 F (ca + (q + 1)))) : Nat) : Int)) hce.1 ?_
  refine lv_aload_n C.1 C.2.1 dX12_member_44 rfl (lv_at hl 2 rfl) ?_
  refine m_get C hM 13 (v := .ref (ad 13)) (by decide) zw_5_0 rfl rfl dX12_member_45 ?_
  refine lv_aload_n C.1 C.2.1 dX12_member_48 rfl (lv_at hl 2 rfl) ?_
  refine lv_aload_n C.1 C.2.1 dX12_member_49 rfl (lv_at hl 2 rfl) ?_
  refine m_get C hM 16 (v := .int (σ.1 16)) (by decide) zw_26_10 rfl rfl dX12_member_50 ?_
  refine z_re (y := zI ((cl : Nat) : Int)) hL.2.2.2.2.1 ?_
  refine lv_iconst (v := zI 2) C.1 C.2.1 dX12_member_53 (by decide) ?_
  refine y_iaddN C (a := cl) (b := 2) dX12_member_54 ?_
  refine z_readV C (As := [zN (cl + 2)]) (rest := [.ref (ad 13), zN (e1 F tb (e1 F tb (U2 F (ca + (q + 1))))), .ref o, .ref o]) (c_X12_two l Z hM hB (cl + 2) rfl (by omega)) hM.1 rfl ⟨⟨zw_27_11, zw_1_5, zw_27_8⟩, zd_X12_two⟩ zw_27_9 zw_27_10 ⟨Nat.le_of_ble_eq_true rfl, Nat.le_of_ble_eq_true rfl⟩ ⟨rfl, rfl⟩ rfl hl.1 rfl (Nat.le_of_ble_eq_true rfl) dX12_member_55 ⟨Nat.zero_le _, Nat.zero_le _⟩ hS (fun locs hS => ?_)
  have := U2_lt hB.1 (cl + 2)
  refine m_ald C hM 13 (by decide) (U2 F (cl + 2)) (t := ((U2 F (cl + 2) : Nat) : Int)) rfl (by show _ < 502; omega) dX12_member_58 ?_
  refine z_re (y := zI ((e1 F tb (U2 F (cl + 2)) : Nat) : Int)) hoe.1 ?_
  refine z_readV C (As := [zN (e1 F tb (e1 F tb (U2 F (ca + (q + 1))))), zN (e1 F tb (U2 F (cl + 2)))]) (rest := [.ref o]) (c_X12_isSame l Z hM hB (hL.nm (x6_cls hx6 hm1)) (hL.nm (x6_cls hx6 hown))) hM.1 rfl ⟨⟨zw_30_14, zw_1_5, zw_30_11⟩, zd_X12_isSame⟩ zw_30_12 zw_30_13 ⟨Nat.le_of_ble_eq_true rfl, Nat.le_of_ble_eq_true rfl⟩ ⟨rfl, rfl⟩ rfl hl.1 rfl (Nat.le_of_ble_eq_true rfl) dX12_member_59 ⟨Nat.zero_le _, Nat.zero_le _⟩ hS (fun locs hS => ?_)
  refine lv_iload_n C.1 C.2.1 dX12_member_62 rfl (lv_at hl 3 rfl) ?_
  refine z_callVX C (As := [zV (bI (sameK F tb (e1 F tb (e1 F tb (U2 F (ca + (q + 1))))) (e1 F tb (U2 F (cl + 2))))), zN q]) (rest := []) (c_X12_point l Z hM h32 (by omega) (sameK F tb (e1 F tb (e1 F tb (U2 F (ca + (q + 1))))) (e1 F tb (U2 F (cl + 2)))) q (by omega)) hM.1 rfl ⟨⟨zw_34_1, zw_1_5, zw_33_22⟩, zd_X12_point⟩ zw_33_23 zw_34_0 ⟨Nat.le_of_ble_eq_true rfl, Nat.le_of_ble_eq_true rfl⟩ ⟨rfl, rfl⟩ rfl hl.1 rfl (Nat.le_of_ble_eq_true rfl) dX12_member_63 ⟨Nat.zero_le _, Nat.zero_le _⟩ hS (fun _ h => h) (fun H9 locs9 q9 ce9 hp9 hS9 _ _ g1 g2 g3 => ?_) (fun v H locs hp hS _ _ => ?_)
  · exact hth _ _ _ _ _ _ _ hS9 (⟨(by unfold mbR; rw [if_neg (fun z => absurd ((show sameK F tb (e1 F tb (e1 F tb (U2 F (ca + (q + 1))))) (e1 F tb (U2 F (cl + 2))) = false from hp9.1).symm.trans z.2) (by decide))]; decide), hp9.2⟩) g1 g2 g3
  obtain ⟨hb63, rfl, hM⟩ := hp
  refine lv_iload_n C.1 C.2.1 dX12_member_66 rfl (lv_at hl 4 rfl) ?_
  refine lv_bipush (v := zI 9) C.1 C.2.1 dX12_member_67 (by decide) ?_
  refine y_icmp_ne (tgt := 76) C (a := ((g : Nat) : Int)) (b := 9) dX12_member_69 (by decide) (by omega) (fun h69 => ?_) (fun h69 => ?_)
  · refine lv_aload_n C.1 C.2.1 dX12_member_76 rfl (lv_at hl 2 rfl) ?_
    refine m_get C hM 18 (v := .int (σ.1 18)) (by decide) zw_26_0 rfl rfl dX12_member_77 ?_
    refine z_re (y := zI ((nf : Nat) : Int)) hL.2.2.2.2.2.2.2.1 ?_
    refine lv_istore (lv' := [(5, zN nf), (4, zN (e2 F tb (U2 F (ca + (q + 1))))), (3, zN (U2 F (ca + (q + 1)))), (0, .ref o), (1, zN q), (2, zN g)]) C.1 C.2.1 dX12_member_80 hl (by decide) rfl (fun ls hl => ?_)
    refine lv_iload_n C.1 C.2.1 dX12_member_82 rfl (lv_at hl 5 rfl) ?_
    refine lv_bipush (v := zI 9) C.1 C.2.1 dX12_member_83 (by decide) ?_
    refine y_icmp_ne (tgt := 95) C (a := ((g : Nat) : Int)) (b := 9) dX12_member_85 (by decide) (by omega) (fun h85 => ?_) (fun h85 => ?_)
    · refine lv_aload_n C.1 C.2.1 dX12_member_95 rfl (lv_at hl 3 rfl) ?_
      refine m_get C hM 17 (v := .int (σ.1 17)) (by decide) zw_25_23 rfl rfl dX12_member_96 ?_
      refine z_re (y := zI ((nf + nm : Nat) : Int)) hL.2.2.2.2.2.2.1 ?_
      refine lv_istore (lv' := [(6, zN (nf + nm)), (5, zN nf), (4, zN (e2 F tb (U2 F (ca + (q + 1))))), (3, zN (U2 F (ca + (q + 1)))), (0, .ref o), (1, zN q), (2, zN g)]) C.1 C.2.1 dX12_member_99 hl (by decide) rfl (fun ls hl => ?_)
      refine lv_iconst (v := zI (-1)) C.1 C.2.1 dX12_member_101 (by decide) ?_
      refine lv_istore (lv' := [(7, zV (-1)), (6, zN (nf + nm)), (5, zN nf), (4, zN (e2 F tb (U2 F (ca + (q + 1))))), (3, zN (U2 F (ca + (q + 1)))), (0, .ref o), (1, zN q), (2, zN g)]) C.1 C.2.1 dX12_member_102 hl (by decide) rfl (fun ls hl => ?_)
      refine lv_iload C.1 C.2.1 dX12_member_104 (lv_at hl 2 rfl) ?_
      refine lv_istore (lv' := [(8, zN nf), (7, zV (-1)), (6, zN (nf + nm)), (5, zN nf), (4, zN (e2 F tb (U2 F (ca + (q + 1))))), (3, zN (U2 F (ca + (q + 1)))), (0, .ref o), (1, zN q), (2, zN g)]) C.1 C.2.1 dX12_member_106 hl (by decide) rfl (fun ls hl => ?_)
      have hl : lv_has ls 9 [(8, zN nf), (7, zV (fnL F tb mt (e1 F tb (e2 F tb (U2 F (ca + (q + 1))))) (e2 F tb (e2 F tb (U2 F (ca + (q + 1))))) nf (nf - nf))), (6, zN (nf + nm)), (5, zN nf), (4, zN (e2 F tb (U2 F (ca + (q + 1))))), (3, zN (U2 F (ca + (q + 1)))), (0, .ref o), (1, zN q), (2, zN g)] := by rw [show (fnL F tb mt (e1 F tb (e2 F tb (U2 F (ca + (q + 1))))) (e2 F tb (e2 F tb (U2 F (ca + (q + 1))))) nf (nf - nf) : Int) = -1 from (by rw [Nat.sub_self]; rfl)]; exact hl
      have loopM : ∀ (fu : Nat) (i : Nat) (H : Heap) (ls : Array Slot) (locs : List Loc), va_S (mA o ad) s.heap H locs → isM Z H o ad σ → (i + fu = nf + nm + 1 ∧ nf ≤ i ∧ i ≤ nf + nm) → lv_has ls 9 [(8, zN i), (7, zV (fnL F tb mt (e1 F tb (e2 F tb (U2 F (ca + (q + 1))))) (e2 F tb (e2 F tb (U2 F (ca + (q + 1))))) nf (i - nf))), (6, zN (nf + nm)), (5, zN nf), (4, zN (e2 F tb (U2 F (ca + (q + 1))))), (0, .ref o), (1, zN q), (2, zN g)] → W p l e (rmk 6) s m args below meth c H locs 0 0 Q (F0 m 108 ls []) := by
        intro fu
        induction fu with
        | zero =>
          intro i H ls locs hS hM hi hl
          omega
        | succ fu ih_loopM =>
          intro i H ls locs hS hM hi hl
          have hfr := fnL_rg F tb mt (e1 F tb (e2 F tb (U2 F (ca + (q + 1))))) (e2 F tb (e2 F tb (U2 F (ca + (q + 1))))) nf (i - nf)
          refine lv_iload C.1 C.2.1 dX12_member_108 (lv_at hl 0 rfl) ?_
          refine lv_iload C.1 C.2.1 dX12_member_110 (lv_at hl 2 rfl) ?_
          refine y_icmp_ge (tgt := 182) C (a := ((i : Nat) : Int)) (b := ((nf + nm : Nat) : Int)) dX12_member_112 (by decide) (by omega) (fun h112 => ?_) (fun h112 => ?_)
          · have hres : mbR F tb mt (U2 F 8) cl nf nm (U2 F (ca + (q + 1))) g = fnL F tb mt (e1 F tb (e2 F tb (U2 F (ca + (q + 1))))) (e2 F tb (e2 F tb (U2 F (ca + (q + 1))))) nf (i - nf) := by unfold mbR; rw [if_pos ⟨hb20, (show sameK F tb (e1 F tb (e1 F tb (U2 F (ca + (q + 1))))) (e1 F tb (U2 F (cl + 2))) = true from hb63)⟩, if_neg (by omega), show i - nf = nm by omega]
            refine lv_aload_n C.1 C.2.1 dX12_member_182 rfl (lv_at hl 5 rfl) ?_
            refine lv_iload C.1 C.2.1 dX12_member_183 (lv_at hl 1 rfl) ?_
            refine y_if_lt (tgt := 192) C (a := fnL F tb mt (e1 F tb (e2 F tb (U2 F (ca + (q + 1))))) (e2 F tb (e2 F tb (U2 F (ca + (q + 1))))) nf (i - nf)) dX12_member_185 (by decide) (by omega) (fun h185 => ?_) (fun h185 => ?_)
            · refine lv_iconst (v := zI 0) C.1 C.2.1 dX12_member_192 (by decide) ?_
              refine lv_iload_n C.1 C.2.1 dX12_member_193 rfl (lv_at hl 6 rfl) ?_
              refine z_callVX C (As := [zV (bI false), zN q]) (rest := []) (c_X12_point l Z hM h32 (by omega) false q (by omega)) hM.1 rfl ⟨⟨zw_34_1, zw_1_5, zw_33_22⟩, zd_X12_point⟩ zw_33_23 zw_34_0 ⟨Nat.le_of_ble_eq_true rfl, Nat.le_of_ble_eq_true rfl⟩ ⟨rfl, rfl⟩ rfl hl.1 rfl (Nat.le_of_ble_eq_true rfl) dX12_member_194 ⟨Nat.zero_le _, Nat.zero_le _⟩ hS (fun _ h => h) (fun H9 locs9 q9 ce9 hp9 hS9 _ _ g1 g2 g3 => ?_) (fun v H locs hp hS _ _ => ?_)
              · exact hth _ _ _ _ _ _ _ hS9 (⟨(by rw [hres]; omega), hp9.2⟩) g1 g2 g3
              exact absurd hp.1 (by decide)
            · refine lv_iconst (v := zI 1) C.1 C.2.1 dX12_member_188 (by decide) ?_
              refine lv_goto (tgt := 193) C.1 C.2.1 dX12_member_189 (by decide) ?_
              refine lv_iload_n C.1 C.2.1 dX12_member_193 rfl (lv_at hl 6 rfl) ?_
              refine z_callVX C (As := [zV (bI true), zN q]) (rest := []) (c_X12_point l Z hM h32 (by omega) true q (by omega)) hM.1 rfl ⟨⟨zw_34_1, zw_1_5, zw_33_22⟩, zd_X12_point⟩ zw_33_23 zw_34_0 ⟨Nat.le_of_ble_eq_true rfl, Nat.le_of_ble_eq_true rfl⟩ ⟨rfl, rfl⟩ rfl hl.1 rfl (Nat.le_of_ble_eq_true rfl) dX12_member_194 ⟨Nat.zero_le _, Nat.zero_le _⟩ hS (fun _ h => h) (fun H9 locs9 q9 ce9 hp9 hS9 _ _ g1 g2 g3 => ?_) (fun v H locs hp hS _ _ => ?_)
              · exact absurd hp9.1 (by decide)
              obtain ⟨-, rfl, hM⟩ := hp
              refine lv_iload C.1 C.2.1 dX12_member_197 (lv_at hl 1 rfl) ?_
              exact hret _ _ _ _ (zI (fnL F tb mt (e1 F tb (e2 F tb (U2 F (ca + (q + 1))))) (e2 F tb (e2 F tb (U2 F (ca + (q + 1))))) nf (i - nf))) hS ⟨by rw [hres]; omega, by rw [hres], hM⟩ rfl dX12_member_199
          · have hmi := (hMt i (by omega)).2.1
            refine lv_aload_n C.1 C.2.1 dX12_member_115 rfl (lv_at hl 5 rfl) ?_
            refine lv_aload_n C.1 C.2.1 dX12_member_116 rfl (lv_at hl 5 rfl) ?_
            refine lv_aload_n C.1 C.2.1 dX12_member_117 rfl (lv_at hl 5 rfl) ?_
            refine m_get C hM 20 (v := .ref (ad 20)) (by decide) zw_5_4 rfl rfl dX12_member_118 ?_
            refine lv_iload C.1 C.2.1 dX12_member_121 (lv_at hl 0 rfl) ?_
            refine m_ald C hM 20 (by decide) i (t := ((i : Nat) : Int)) rfl (by show _ < 48; omega) dX12_member_123 ?_
            refine z_re (y := zI ((mt i : Nat) : Int)) ((hMt i (by omega)).1) ?_
            refine lv_iconst (v := zI 2) C.1 C.2.1 dX12_member_124 (by decide) ?_
            refine y_iaddN C (a := mt i) (b := 2) dX12_member_125 ?_
            refine z_readV C (As := [zN ((mt i) + 2)]) (rest := [.ref o]) (c_X12_two l Z hM hB ((mt i) + 2) rfl (by omega)) hM.1 rfl ⟨⟨zw_27_11, zw_1_5, zw_27_8⟩, zd_X12_two⟩ zw_27_9 zw_27_10 ⟨Nat.le_of_ble_eq_true rfl, Nat.le_of_ble_eq_true rfl⟩ ⟨rfl, rfl⟩ rfl hl.1 rfl (Nat.le_of_ble_eq_true rfl) dX12_member_126 ⟨Nat.zero_le _, Nat.zero_le _⟩ hS (fun locs hS => ?_)
            have := U2_lt hB.1 ((mt i) + 2)
            refine lv_aload_n C.1 C.2.1 dX12_member_129 rfl (lv_at hl 5 rfl) ?_
            refine m_get C hM 13 (v := .ref (ad 13)) (by decide) zw_5_0 rfl rfl dX12_member_130 ?_
            refine lv_iload C.1 C.2.1 dX12_member_133 (lv_at hl 4 rfl) ?_
            refine m_ald C hM 13 (by decide) (e2 F tb (U2 F (ca + (q + 1)))) (t := ((e2 F tb (U2 F (ca + (q + 1))) : Nat) : Int)) rfl (by show _ < 502; omega) dX12_member_135 ?_
            refine z_re (y := zI ((e1 F tb (e2 F tb (U2 F (ca + (q + 1)))) : Nat) : Int)) hpe.1 ?_
            refine z_readV C (As := [zN (U2 F ((mt i) + 2)), zN (e1 F tb (e2 F tb (U2 F (ca + (q + 1)))))]) (rest := []) (c_X12_isSame l Z hM hB (hL.nm (x9_m hx9 (i := i) (by omega)).1) (hL.nm (x6_pair hx6 hm2).1)) hM.1 rfl ⟨⟨zw_30_14, zw_1_5, zw_30_11⟩, zd_X12_isSame⟩ zw_30_12 zw_30_13 ⟨Nat.le_of_ble_eq_true rfl, Nat.le_of_ble_eq_true rfl⟩ ⟨rfl, rfl⟩ rfl hl.1 rfl (Nat.le_of_ble_eq_true rfl) dX12_member_136 ⟨Nat.zero_le _, Nat.zero_le _⟩ hS (fun locs hS => ?_)
            refine y_ifb_eq (tgt := 176) C dX12_member_139 (by decide) (fun h139 => ?_) (fun h139 => ?_)
            · refine lv_iinc (v := zI ((i + 1 : Nat) : Int)) (lv' := [(8, zN (i + 1)), (7, zV (fnL F tb mt (e1 F tb (e2 F tb (U2 F (ca + (q + 1))))) (e2 F tb (e2 F tb (U2 F (ca + (q + 1))))) nf (i - nf))), (6, zN (nf + nm)), (5, zN nf), (4, zN (e2 F tb (U2 F (ca + (q + 1))))), (0, .ref o), (1, zN q), (2, zN g)]) C.1 C.2.1 dX12_member_176 hl (k := 0) rfl (zI_add _ _) (by decide) rfl (fun ls hl => ?_)
              have hl : lv_has ls 9 [(8, zN (i + 1)), (7, zV (fnL F tb mt (e1 F tb (e2 F tb (U2 F (ca + (q + 1))))) (e2 F tb (e2 F tb (U2 F (ca + (q + 1))))) nf (i + 1 - nf))), (6, zN (nf + nm)), (5, zN nf), (4, zN (e2 F tb (U2 F (ca + (q + 1))))), (0, .ref o), (1, zN q), (2, zN g)] := by rw [show (fnL F tb mt (e1 F tb (e2 F tb (U2 F (ca + (q + 1))))) (e2 F tb (e2 F tb (U2 F (ca + (q + 1))))) nf (i + 1 - nf) : Int) = fnL F tb mt (e1 F tb (e2 F tb (U2 F (ca + (q + 1))))) (e2 F tb (e2 F tb (U2 F (ca + (q + 1))))) nf (i - nf) from (by rw [show i + 1 - nf = (i - nf) + 1 by omega]; exact (fnL_f (show i = nf + (i - nf) by omega) (show mtc F tb mt i (e1 F tb (e2 F tb (U2 F (ca + (q + 1))))) (e2 F tb (e2 F tb (U2 F (ca + (q + 1))))) = false by unfold mtc; rw [show sameK F tb (U2 F (mt i + 2)) (e1 F tb (e2 F tb (U2 F (ca + (q + 1))))) = false from h139, Bool.false_and])))]; exact hl
              refine lv_goto (tgt := 108) C.1 C.2.1 dX12_member_179 (by decide) ?_
              exact ih_loopM (i + 1) _ ls _ hS hM (by omega) hl
            · refine lv_aload_n C.1 C.2.1 dX12_member_142 rfl (lv_at hl 5 rfl) ?_
              refine lv_aload_n C.1 C.2.1 dX12_member_143 rfl (lv_at hl 5 rfl) ?_
              refine lv_aload_n C.1 C.2.1 dX12_member_144 rfl (lv_at hl 5 rfl) ?_
              refine m_get C hM 20 (v := .ref (ad 20)) (by decide) zw_5_4 rfl rfl dX12_member_145 ?_
              refine lv_iload C.1 C.2.1 dX12_member_148 (lv_at hl 0 rfl) ?_
              refine m_ald C hM 20 (by decide) i (t := ((i : Nat) : Int)) rfl (by show _ < 48; omega) dX12_member_150 ?_
              refine z_re (y := zI ((mt i : Nat) : Int)) ((hMt i (by omega)).1) ?_
              refine lv_iconst (v := zI 4) C.1 C.2.1 dX12_member_151 (by decide) ?_
              refine y_iaddN C (a := mt i) (b := 4) dX12_member_152 ?_
              refine z_readV C (As := [zN ((mt i) + 4)]) (rest := [.ref o]) (c_X12_two l Z hM hB ((mt i) + 4) rfl (by omega)) hM.1 rfl ⟨⟨zw_27_11, zw_1_5, zw_27_8⟩, zd_X12_two⟩ zw_27_9 zw_27_10 ⟨Nat.le_of_ble_eq_true rfl, Nat.le_of_ble_eq_true rfl⟩ ⟨rfl, rfl⟩ rfl hl.1 rfl (Nat.le_of_ble_eq_true rfl) dX12_member_153 ⟨Nat.zero_le _, Nat.zero_le _⟩ hS (fun locs hS => ?_)
              have := U2_lt hB.1 ((mt i) + 4)
              refine lv_aload_n C.1 C.2.1 dX12_member_156 rfl (lv_at hl 5 rfl) ?_
              refine m_get C hM 14 (v := .ref (ad 14)) (by decide) zw_5_1 rfl rfl dX12_member_157 ?_
              refine lv_iload C.1 C.2.1 dX12_member_160 (lv_at hl 4 rfl) ?_
              refine m_ald C hM 14 (by decide) (e2 F tb (U2 F (ca + (q + 1)))) (t := ((e2 F tb (U2 F (ca + (q + 1))) : Nat) : Int)) rfl (by show _ < 502; omega) dX12_member_162 ?_
              refine z_re (y := zI ((e2 F tb (e2 F tb (U2 F (ca + (q + 1)))) : Nat) : Int)) hpe.2.1 ?_
              refine z_readV C (As := [zN (U2 F ((mt i) + 4)), zN (e2 F tb (e2 F tb (U2 F (ca + (q + 1)))))]) (rest := []) (c_X12_isSame l Z hM hB (hL.nm (x9_m hx9 (i := i) (by omega)).2.1) (hL.nm (x6_pair hx6 hm2).2)) hM.1 rfl ⟨⟨zw_30_14, zw_1_5, zw_30_11⟩, zd_X12_isSame⟩ zw_30_12 zw_30_13 ⟨Nat.le_of_ble_eq_true rfl, Nat.le_of_ble_eq_true rfl⟩ ⟨rfl, rfl⟩ rfl hl.1 rfl (Nat.le_of_ble_eq_true rfl) dX12_member_163 ⟨Nat.zero_le _, Nat.zero_le _⟩ hS (fun locs hS => ?_)
              refine y_ifb_eq (tgt := 176) C dX12_member_166 (by decide) (fun h166 => ?_) (fun h166 => ?_)
              · refine lv_iinc (v := zI ((i + 1 : Nat) : Int)) (lv' := [(8, zN (i + 1)), (7, zV (fnL F tb mt (e1 F tb (e2 F tb (U2 F (ca + (q + 1))))) (e2 F tb (e2 F tb (U2 F (ca + (q + 1))))) nf (i - nf))), (6, zN (nf + nm)), (5, zN nf), (4, zN (e2 F tb (U2 F (ca + (q + 1))))), (0, .ref o), (1, zN q), (2, zN g)]) C.1 C.2.1 dX12_member_176 hl (k := 0) rfl (zI_add _ _) (by decide) rfl (fun ls hl => ?_)
                have hl : lv_has ls 9 [(8, zN (i + 1)), (7, zV (fnL F tb mt (e1 F tb (e2 F tb (U2 F (ca + (q + 1))))) (e2 F tb (e2 F tb (U2 F (ca + (q + 1))))) nf (i + 1 - nf))), (6, zN (nf + nm)), (5, zN nf), (4, zN (e2 F tb (U2 F (ca + (q + 1))))), (0, .ref o), (1, zN q), (2, zN g)] := by rw [show (fnL F tb mt (e1 F tb (e2 F tb (U2 F (ca + (q + 1))))) (e2 F tb (e2 F tb (U2 F (ca + (q + 1))))) nf (i + 1 - nf) : Int) = fnL F tb mt (e1 F tb (e2 F tb (U2 F (ca + (q + 1))))) (e2 F tb (e2 F tb (U2 F (ca + (q + 1))))) nf (i - nf) from (by rw [show i + 1 - nf = (i - nf) + 1 by omega]; exact (fnL_f (show i = nf + (i - nf) by omega) (show mtc F tb mt i (e1 F tb (e2 F tb (U2 F (ca + (q + 1))))) (e2 F tb (e2 F tb (U2 F (ca + (q + 1))))) = false by unfold mtc; rw [show sameK F tb (U2 F (mt i + 4)) (e2 F tb (e2 F tb (U2 F (ca + (q + 1))))) = false from h166, Bool.and_false])))]; exact hl
                refine lv_goto (tgt := 108) C.1 C.2.1 dX12_member_179 (by decide) ?_
                exact ih_loopM (i + 1) _ ls _ hS hM (by omega) hl
              · refine lv_iload C.1 C.2.1 dX12_member_169 (lv_at hl 0 rfl) ?_
                refine lv_iload C.1 C.2.1 dX12_member_171 (lv_at hl 3 rfl) ?_
                refine y_isub C (a := ((i : Nat) : Int)) (b := ((nf : Nat) : Int)) dX12_member_173 ?_
                refine lv_istore (lv' := [(7, zV (((i : Nat) : Int) - ((nf : Nat) : Int))), (8, zN i), (6, zN (nf + nm)), (5, zN nf), (4, zN (e2 F tb (U2 F (ca + (q + 1))))), (0, .ref o), (1, zN q), (2, zN g)]) C.1 C.2.1 dX12_member_174 hl (by decide) rfl (fun ls hl => ?_)
                refine lv_iinc (v := zI ((i + 1 : Nat) : Int)) (lv' := [(8, zN (i + 1)), (7, zV (((i : Nat) : Int) - ((nf : Nat) : Int))), (6, zN (nf + nm)), (5, zN nf), (4, zN (e2 F tb (U2 F (ca + (q + 1))))), (0, .ref o), (1, zN q), (2, zN g)]) C.1 C.2.1 dX12_member_176 hl (k := 1) rfl (zI_add _ _) (by decide) rfl (fun ls hl => ?_)
                have hl : lv_has ls 9 [(8, zN (i + 1)), (7, zV (fnL F tb mt (e1 F tb (e2 F tb (U2 F (ca + (q + 1))))) (e2 F tb (e2 F tb (U2 F (ca + (q + 1))))) nf (i + 1 - nf))), (6, zN (nf + nm)), (5, zN nf), (4, zN (e2 F tb (U2 F (ca + (q + 1))))), (0, .ref o), (1, zN q), (2, zN g)] := by rw [show (fnL F tb mt (e1 F tb (e2 F tb (U2 F (ca + (q + 1))))) (e2 F tb (e2 F tb (U2 F (ca + (q + 1))))) nf (i + 1 - nf) : Int) = ((i : Nat) : Int) - ((nf : Nat) : Int) from (by rw [show i + 1 - nf = (i - nf) + 1 by omega]; exact (fnL_t (show i = nf + (i - nf) by omega) (show mtc F tb mt i (e1 F tb (e2 F tb (U2 F (ca + (q + 1))))) (e2 F tb (e2 F tb (U2 F (ca + (q + 1))))) = true by unfold mtc; rw [show sameK F tb (U2 F (mt i + 2)) (e1 F tb (e2 F tb (U2 F (ca + (q + 1))))) = true from h139, show sameK F tb (U2 F (mt i + 4)) (e2 F tb (e2 F tb (U2 F (ca + (q + 1))))) = true from h166]; rfl)).trans (by omega))]; exact hl
                refine lv_goto (tgt := 108) C.1 C.2.1 dX12_member_179 (by decide) ?_
                exact ih_loopM (i + 1) _ ls _ hS hM (by omega) hl
      exact loopM (nf + nm + 1 - nf) nf _ ls _ hS hM (by omega) (lv_sub hl [0, 1, 2, 3, 4, 6, 7, 8] rfl)
    · exact False.elim (by omega)
  · refine lv_iconst (v := zI 0) C.1 C.2.1 dX12_member_72 (by decide) ?_
    refine lv_goto (tgt := 80) C.1 C.2.1 dX12_member_73 (by decide) ?_
    refine lv_istore (lv' := [(5, zN 0), (4, zN (e2 F tb (U2 F (ca + (q + 1))))), (3, zN (U2 F (ca + (q + 1)))), (0, .ref o), (1, zN q), (2, zN g)]) C.1 C.2.1 dX12_member_80 hl (by decide) rfl (fun ls hl => ?_)
    refine lv_iload_n C.1 C.2.1 dX12_member_82 rfl (lv_at hl 5 rfl) ?_
    refine lv_bipush (v := zI 9) C.1 C.2.1 dX12_member_83 (by decide) ?_
    refine y_icmp_ne (tgt := 95) C (a := ((g : Nat) : Int)) (b := 9) dX12_member_85 (by decide) (by omega) (fun h85 => ?_) (fun h85 => ?_)
    · exact False.elim (by omega)
    · refine lv_aload_n C.1 C.2.1 dX12_member_88 rfl (lv_at hl 3 rfl) ?_
      refine m_get C hM 18 (v := .int (σ.1 18)) (by decide) zw_26_0 rfl rfl dX12_member_89 ?_
      refine z_re (y := zI ((nf : Nat) : Int)) hL.2.2.2.2.2.2.2.1 ?_
      refine lv_goto (tgt := 99) C.1 C.2.1 dX12_member_92 (by decide) ?_
      refine lv_istore (lv' := [(6, zN nf), (5, zN 0), (4, zN (e2 F tb (U2 F (ca + (q + 1))))), (3, zN (U2 F (ca + (q + 1)))), (0, .ref o), (1, zN q), (2, zN g)]) C.1 C.2.1 dX12_member_99 hl (by decide) rfl (fun ls hl => ?_)
      refine lv_iconst (v := zI (-1)) C.1 C.2.1 dX12_member_101 (by decide) ?_
      refine lv_istore (lv' := [(7, zV (-1)), (6, zN nf), (5, zN 0), (4, zN (e2 F tb (U2 F (ca + (q + 1))))), (3, zN (U2 F (ca + (q + 1)))), (0, .ref o), (1, zN q), (2, zN g)]) C.1 C.2.1 dX12_member_102 hl (by decide) rfl (fun ls hl => ?_)
      refine lv_iload C.1 C.2.1 dX12_member_104 (lv_at hl 2 rfl) ?_
      refine lv_istore (lv' := [(8, zN 0), (7, zV (-1)), (6, zN nf), (5, zN 0), (4, zN (e2 F tb (U2 F (ca + (q + 1))))), (3, zN (U2 F (ca + (q + 1)))), (0, .ref o), (1, zN q), (2, zN g)]) C.1 C.2.1 dX12_member_106 hl (by decide) rfl (fun ls hl => ?_)
      have hl : lv_has ls 9 [(8, zN 0), (7, zV (fnL F tb mt (e1 F tb (e2 F tb (U2 F (ca + (q + 1))))) (e2 F tb (e2 F tb (U2 F (ca + (q + 1))))) 0 (0 - 0))), (6, zN nf), (5, zN 0), (4, zN (e2 F tb (U2 F (ca + (q + 1))))), (3, zN (U2 F (ca + (q + 1)))), (0, .ref o), (1, zN q), (2, zN g)] := by rw [show (fnL F tb mt (e1 F tb (e2 F tb (U2 F (ca + (q + 1))))) (e2 F tb (e2 F tb (U2 F (ca + (q + 1))))) 0 (0 - 0) : Int) = -1 from (by rw [Nat.sub_self]; rfl)]; exact hl
      have loopM : ∀ (fu : Nat) (i : Nat) (H : Heap) (ls : Array Slot) (locs : List Loc), va_S (mA o ad) s.heap H locs → isM Z H o ad σ → (i + fu = nf + 1 ∧ 0 ≤ i ∧ i ≤ nf) → lv_has ls 9 [(8, zN i), (7, zV (fnL F tb mt (e1 F tb (e2 F tb (U2 F (ca + (q + 1))))) (e2 F tb (e2 F tb (U2 F (ca + (q + 1))))) 0 (i - 0))), (6, zN nf), (5, zN 0), (4, zN (e2 F tb (U2 F (ca + (q + 1))))), (0, .ref o), (1, zN q), (2, zN g)] → W p l e (rmk 6) s m args below meth c H locs 0 0 Q (F0 m 108 ls []) := by
        intro fu
        induction fu with
        | zero =>
          intro i H ls locs hS hM hi hl
          omega
        | succ fu ih_loopM =>
          intro i H ls locs hS hM hi hl
          have hfr := fnL_rg F tb mt (e1 F tb (e2 F tb (U2 F (ca + (q + 1))))) (e2 F tb (e2 F tb (U2 F (ca + (q + 1))))) 0 (i - 0)
          refine lv_iload C.1 C.2.1 dX12_member_108 (lv_at hl 0 rfl) ?_
          refine lv_iload C.1 C.2.1 dX12_member_110 (lv_at hl 2 rfl) ?_
          refine y_icmp_ge (tgt := 182) C (a := ((i : Nat) : Int)) (b := ((nf : Nat) : Int)) dX12_member_112 (by decide) (by omega) (fun h112 => ?_) (fun h112 => ?_)
          · have hres : mbR F tb mt (U2 F 8) cl nf nm (U2 F (ca + (q + 1))) g = fnL F tb mt (e1 F tb (e2 F tb (U2 F (ca + (q + 1))))) (e2 F tb (e2 F tb (U2 F (ca + (q + 1))))) 0 (i - 0) := by unfold mbR; rw [if_pos ⟨hb20, (show sameK F tb (e1 F tb (e1 F tb (U2 F (ca + (q + 1))))) (e1 F tb (U2 F (cl + 2))) = true from hb63)⟩, if_pos (by omega), show i - 0 = nf by omega]
            refine lv_aload_n C.1 C.2.1 dX12_member_182 rfl (lv_at hl 5 rfl) ?_
            refine lv_iload C.1 C.2.1 dX12_member_183 (lv_at hl 1 rfl) ?_
            refine y_if_lt (tgt := 192) C (a := fnL F tb mt (e1 F tb (e2 F tb (U2 F (ca + (q + 1))))) (e2 F tb (e2 F tb (U2 F (ca + (q + 1))))) 0 (i - 0)) dX12_member_185 (by decide) (by omega) (fun h185 => ?_) (fun h185 => ?_)
            · refine lv_iconst (v := zI 0) C.1 C.2.1 dX12_member_192 (by decide) ?_
              refine lv_iload_n C.1 C.2.1 dX12_member_193 rfl (lv_at hl 6 rfl) ?_
              refine z_callVX C (As := [zV (bI false), zN q]) (rest := []) (c_X12_point l Z hM h32 (by omega) false q (by omega)) hM.1 rfl ⟨⟨zw_34_1, zw_1_5, zw_33_22⟩, zd_X12_point⟩ zw_33_23 zw_34_0 ⟨Nat.le_of_ble_eq_true rfl, Nat.le_of_ble_eq_true rfl⟩ ⟨rfl, rfl⟩ rfl hl.1 rfl (Nat.le_of_ble_eq_true rfl) dX12_member_194 ⟨Nat.zero_le _, Nat.zero_le _⟩ hS (fun _ h => h) (fun H9 locs9 q9 ce9 hp9 hS9 _ _ g1 g2 g3 => ?_) (fun v H locs hp hS _ _ => ?_)
              · exact hth _ _ _ _ _ _ _ hS9 (⟨(by rw [hres]; omega), hp9.2⟩) g1 g2 g3
              exact absurd hp.1 (by decide)
            · refine lv_iconst (v := zI 1) C.1 C.2.1 dX12_member_188 (by decide) ?_
              refine lv_goto (tgt := 193) C.1 C.2.1 dX12_member_189 (by decide) ?_
              refine lv_iload_n C.1 C.2.1 dX12_member_193 rfl (lv_at hl 6 rfl) ?_
              refine z_callVX C (As := [zV (bI true), zN q]) (rest := []) (c_X12_point l Z hM h32 (by omega) true q (by omega)) hM.1 rfl ⟨⟨zw_34_1, zw_1_5, zw_33_22⟩, zd_X12_point⟩ zw_33_23 zw_34_0 ⟨Nat.le_of_ble_eq_true rfl, Nat.le_of_ble_eq_true rfl⟩ ⟨rfl, rfl⟩ rfl hl.1 rfl (Nat.le_of_ble_eq_true rfl) dX12_member_194 ⟨Nat.zero_le _, Nat.zero_le _⟩ hS (fun _ h => h) (fun H9 locs9 q9 ce9 hp9 hS9 _ _ g1 g2 g3 => ?_) (fun v H locs hp hS _ _ => ?_)
              · exact absurd hp9.1 (by decide)
              obtain ⟨-, rfl, hM⟩ := hp
              refine lv_iload C.1 C.2.1 dX12_member_197 (lv_at hl 1 rfl) ?_
              exact hret _ _ _ _ (zI (fnL F tb mt (e1 F tb (e2 F tb (U2 F (ca + (q + 1))))) (e2 F tb (e2 F tb (U2 F (ca + (q + 1))))) 0 (i - 0))) hS ⟨by rw [hres]; omega, by rw [hres], hM⟩ rfl dX12_member_199
          · have hmi := (hMt i (by omega)).2.1
            refine lv_aload_n C.1 C.2.1 dX12_member_115 rfl (lv_at hl 5 rfl) ?_
            refine lv_aload_n C.1 C.2.1 dX12_member_116 rfl (lv_at hl 5 rfl) ?_
            refine lv_aload_n C.1 C.2.1 dX12_member_117 rfl (lv_at hl 5 rfl) ?_
            refine m_get C hM 20 (v := .ref (ad 20)) (by decide) zw_5_4 rfl rfl dX12_member_118 ?_
            refine lv_iload C.1 C.2.1 dX12_member_121 (lv_at hl 0 rfl) ?_
            refine m_ald C hM 20 (by decide) i (t := ((i : Nat) : Int)) rfl (by show _ < 48; omega) dX12_member_123 ?_
            refine z_re (y := zI ((mt i : Nat) : Int)) ((hMt i (by omega)).1) ?_
            refine lv_iconst (v := zI 2) C.1 C.2.1 dX12_member_124 (by decide) ?_
            refine y_iaddN C (a := mt i) (b := 2) dX12_member_125 ?_
            refine z_readV C (As := [zN ((mt i) + 2)]) (rest := [.ref o]) (c_X12_two l Z hM hB ((mt i) + 2) rfl (by omega)) hM.1 rfl ⟨⟨zw_27_11, zw_1_5, zw_27_8⟩, zd_X12_two⟩ zw_27_9 zw_27_10 ⟨Nat.le_of_ble_eq_true rfl, Nat.le_of_ble_eq_true rfl⟩ ⟨rfl, rfl⟩ rfl hl.1 rfl (Nat.le_of_ble_eq_true rfl) dX12_member_126 ⟨Nat.zero_le _, Nat.zero_le _⟩ hS (fun locs hS => ?_)
            have := U2_lt hB.1 ((mt i) + 2)
            refine lv_aload_n C.1 C.2.1 dX12_member_129 rfl (lv_at hl 5 rfl) ?_
            refine m_get C hM 13 (v := .ref (ad 13)) (by decide) zw_5_0 rfl rfl dX12_member_130 ?_
            refine lv_iload C.1 C.2.1 dX12_member_133 (lv_at hl 4 rfl) ?_
            refine m_ald C hM 13 (by decide) (e2 F tb (U2 F (ca + (q + 1)))) (t := ((e2 F tb (U2 F (ca + (q + 1))) : Nat) : Int)) rfl (by show _ < 502; omega) dX12_member_135 ?_
            refine z_re (y := zI ((e1 F tb (e2 F tb (U2 F (ca + (q + 1)))) : Nat) : Int)) hpe.1 ?_
            refine z_readV C (As := [zN (U2 F ((mt i) + 2)), zN (e1 F tb (e2 F tb (U2 F (ca + (q + 1)))))]) (rest := []) (c_X12_isSame l Z hM hB (hL.nm (x9_m hx9 (i := i) (by omega)).1) (hL.nm (x6_pair hx6 hm2).1)) hM.1 rfl ⟨⟨zw_30_14, zw_1_5, zw_30_11⟩, zd_X12_isSame⟩ zw_30_12 zw_30_13 ⟨Nat.le_of_ble_eq_true rfl, Nat.le_of_ble_eq_true rfl⟩ ⟨rfl, rfl⟩ rfl hl.1 rfl (Nat.le_of_ble_eq_true rfl) dX12_member_136 ⟨Nat.zero_le _, Nat.zero_le _⟩ hS (fun locs hS => ?_)
            refine y_ifb_eq (tgt := 176) C dX12_member_139 (by decide) (fun h139 => ?_) (fun h139 => ?_)
            · refine lv_iinc (v := zI ((i + 1 : Nat) : Int)) (lv' := [(8, zN (i + 1)), (7, zV (fnL F tb mt (e1 F tb (e2 F tb (U2 F (ca + (q + 1))))) (e2 F tb (e2 F tb (U2 F (ca + (q + 1))))) 0 (i - 0))), (6, zN nf), (5, zN 0), (4, zN (e2 F tb (U2 F (ca + (q + 1))))), (0, .ref o), (1, zN q), (2, zN g)]) C.1 C.2.1 dX12_member_176 hl (k := 0) rfl (zI_add _ _) (by decide) rfl (fun ls hl => ?_)
              have hl : lv_has ls 9 [(8, zN (i + 1)), (7, zV (fnL F tb mt (e1 F tb (e2 F tb (U2 F (ca + (q + 1))))) (e2 F tb (e2 F tb (U2 F (ca + (q + 1))))) 0 (i + 1 - 0))), (6, zN nf), (5, zN 0), (4, zN (e2 F tb (U2 F (ca + (q + 1))))), (0, .ref o), (1, zN q), (2, zN g)] := by rw [show (fnL F tb mt (e1 F tb (e2 F tb (U2 F (ca + (q + 1))))) (e2 F tb (e2 F tb (U2 F (ca + (q + 1))))) 0 (i + 1 - 0) : Int) = fnL F tb mt (e1 F tb (e2 F tb (U2 F (ca + (q + 1))))) (e2 F tb (e2 F tb (U2 F (ca + (q + 1))))) 0 (i - 0) from (by rw [show i + 1 - 0 = (i - 0) + 1 by omega]; exact (fnL_f (show i = 0 + (i - 0) by omega) (show mtc F tb mt i (e1 F tb (e2 F tb (U2 F (ca + (q + 1))))) (e2 F tb (e2 F tb (U2 F (ca + (q + 1))))) = false by unfold mtc; rw [show sameK F tb (U2 F (mt i + 2)) (e1 F tb (e2 F tb (U2 F (ca + (q + 1))))) = false from h139, Bool.false_and])))]; exact hl
              refine lv_goto (tgt := 108) C.1 C.2.1 dX12_member_179 (by decide) ?_
              exact ih_loopM (i + 1) _ ls _ hS hM (by omega) hl
            · refine lv_aload_n C.1 C.2.1 dX12_member_142 rfl (lv_at hl 5 rfl) ?_
              refine lv_aload_n C.1 C.2.1 dX12_member_143 rfl (lv_at hl 5 rfl) ?_
              refine lv_aload_n C.1 C.2.1 dX12_member_144 rfl (lv_at hl 5 rfl) ?_
              refine m_get C hM 20 (v := .ref (ad 20)) (by decide) zw_5_4 rfl rfl dX12_member_145 ?_
              refine lv_iload C.1 C.2.1 dX12_member_148 (lv_at hl 0 rfl) ?_
              refine m_ald C hM 20 (by decide) i (t := ((i : Nat) : Int)) rfl (by show _ < 48; omega) dX12_member_150 ?_
              refine z_re (y := zI ((mt i : Nat) : Int)) ((hMt i (by omega)).1) ?_
              refine lv_iconst (v := zI 4) C.1 C.2.1 dX12_member_151 (by decide) ?_
              refine y_iaddN C (a := mt i) (b := 4) dX12_member_152 ?_
              refine z_readV C (As := [zN ((mt i) + 4)]) (rest := [.ref o]) (c_X12_two l Z hM hB ((mt i) + 4) rfl (by omega)) hM.1 rfl ⟨⟨zw_27_11, zw_1_5, zw_27_8⟩, zd_X12_two⟩ zw_27_9 zw_27_10 ⟨Nat.le_of_ble_eq_true rfl, Nat.le_of_ble_eq_true rfl⟩ ⟨rfl, rfl⟩ rfl hl.1 rfl (Nat.le_of_ble_eq_true rfl) dX12_member_153 ⟨Nat.zero_le _, Nat.zero_le _⟩ hS (fun locs hS => ?_)
              have := U2_lt hB.1 ((mt i) + 4)
              refine lv_aload_n C.1 C.2.1 dX12_member_156 rfl (lv_at hl 5 rfl) ?_
              refine m_get C hM 14 (v := .ref (ad 14)) (by decide) zw_5_1 rfl rfl dX12_member_157 ?_
              refine lv_iload C.1 C.2.1 dX12_member_160 (lv_at hl 4 rfl) ?_
              refine m_ald C hM 14 (by decide) (e2 F tb (U2 F (ca + (q + 1)))) (t := ((e2 F tb (U2 F (ca + (q + 1))) : Nat) : Int)) rfl (by show _ < 502; omega) dX12_member_162 ?_
              refine z_re (y := zI ((e2 F tb (e2 F tb (U2 F (ca + (q + 1)))) : Nat) : Int)) hpe.2.1 ?_
              refine z_readV C (As := [zN (U2 F ((mt i) + 4)), zN (e2 F tb (e2 F tb (U2 F (ca + (q + 1)))))]) (rest := []) (c_X12_isSame l Z hM hB (hL.nm (x9_m hx9 (i := i) (by omega)).2.1) (hL.nm (x6_pair hx6 hm2).2)) hM.1 rfl ⟨⟨zw_30_14, zw_1_5, zw_30_11⟩, zd_X12_isSame⟩ zw_30_12 zw_30_13 ⟨Nat.le_of_ble_eq_true rfl, Nat.le_of_ble_eq_true rfl⟩ ⟨rfl, rfl⟩ rfl hl.1 rfl (Nat.le_of_ble_eq_true rfl) dX12_member_163 ⟨Nat.zero_le _, Nat.zero_le _⟩ hS (fun locs hS => ?_)
              refine y_ifb_eq (tgt := 176) C dX12_member_166 (by decide) (fun h166 => ?_) (fun h166 => ?_)
              · refine lv_iinc (v := zI ((i + 1 : Nat) : Int)) (lv' := [(8, zN (i + 1)), (7, zV (fnL F tb mt (e1 F tb (e2 F tb (U2 F (ca + (q + 1))))) (e2 F tb (e2 F tb (U2 F (ca + (q + 1))))) 0 (i - 0))), (6, zN nf), (5, zN 0), (4, zN (e2 F tb (U2 F (ca + (q + 1))))), (0, .ref o), (1, zN q), (2, zN g)]) C.1 C.2.1 dX12_member_176 hl (k := 0) rfl (zI_add _ _) (by decide) rfl (fun ls hl => ?_)
                have hl : lv_has ls 9 [(8, zN (i + 1)), (7, zV (fnL F tb mt (e1 F tb (e2 F tb (U2 F (ca + (q + 1))))) (e2 F tb (e2 F tb (U2 F (ca + (q + 1))))) 0 (i + 1 - 0))), (6, zN nf), (5, zN 0), (4, zN (e2 F tb (U2 F (ca + (q + 1))))), (0, .ref o), (1, zN q), (2, zN g)] := by rw [show (fnL F tb mt (e1 F tb (e2 F tb (U2 F (ca + (q + 1))))) (e2 F tb (e2 F tb (U2 F (ca + (q + 1))))) 0 (i + 1 - 0) : Int) = fnL F tb mt (e1 F tb (e2 F tb (U2 F (ca + (q + 1))))) (e2 F tb (e2 F tb (U2 F (ca + (q + 1))))) 0 (i - 0) from (by rw [show i + 1 - 0 = (i - 0) + 1 by omega]; exact (fnL_f (show i = 0 + (i - 0) by omega) (show mtc F tb mt i (e1 F tb (e2 F tb (U2 F (ca + (q + 1))))) (e2 F tb (e2 F tb (U2 F (ca + (q + 1))))) = false by unfold mtc; rw [show sameK F tb (U2 F (mt i + 4)) (e2 F tb (e2 F tb (U2 F (ca + (q + 1))))) = false from h166, Bool.and_false])))]; exact hl
                refine lv_goto (tgt := 108) C.1 C.2.1 dX12_member_179 (by decide) ?_
                exact ih_loopM (i + 1) _ ls _ hS hM (by omega) hl
              · refine lv_iload C.1 C.2.1 dX12_member_169 (lv_at hl 0 rfl) ?_
                refine lv_iload C.1 C.2.1 dX12_member_171 (lv_at hl 3 rfl) ?_
                refine y_isub C (a := ((i : Nat) : Int)) (b := 0) dX12_member_173 ?_
                refine lv_istore (lv' := [(7, zV (((i : Nat) : Int) - 0)), (8, zN i), (6, zN nf), (5, zN 0), (4, zN (e2 F tb (U2 F (ca + (q + 1))))), (0, .ref o), (1, zN q), (2, zN g)]) C.1 C.2.1 dX12_member_174 hl (by decide) rfl (fun ls hl => ?_)
                refine lv_iinc (v := zI ((i + 1 : Nat) : Int)) (lv' := [(8, zN (i + 1)), (7, zV (((i : Nat) : Int) - 0)), (6, zN nf), (5, zN 0), (4, zN (e2 F tb (U2 F (ca + (q + 1))))), (0, .ref o), (1, zN q), (2, zN g)]) C.1 C.2.1 dX12_member_176 hl (k := 1) rfl (zI_add _ _) (by decide) rfl (fun ls hl => ?_)
                have hl : lv_has ls 9 [(8, zN (i + 1)), (7, zV (fnL F tb mt (e1 F tb (e2 F tb (U2 F (ca + (q + 1))))) (e2 F tb (e2 F tb (U2 F (ca + (q + 1))))) 0 (i + 1 - 0))), (6, zN nf), (5, zN 0), (4, zN (e2 F tb (U2 F (ca + (q + 1))))), (0, .ref o), (1, zN q), (2, zN g)] := by rw [show (fnL F tb mt (e1 F tb (e2 F tb (U2 F (ca + (q + 1))))) (e2 F tb (e2 F tb (U2 F (ca + (q + 1))))) 0 (i + 1 - 0) : Int) = ((i : Nat) : Int) - 0 from (by rw [show i + 1 - 0 = (i - 0) + 1 by omega]; exact (fnL_t (show i = 0 + (i - 0) by omega) (show mtc F tb mt i (e1 F tb (e2 F tb (U2 F (ca + (q + 1))))) (e2 F tb (e2 F tb (U2 F (ca + (q + 1))))) = true by unfold mtc; rw [show sameK F tb (U2 F (mt i + 2)) (e1 F tb (e2 F tb (U2 F (ca + (q + 1))))) = true from h139, show sameK F tb (U2 F (mt i + 4)) (e2 F tb (e2 F tb (U2 F (ca + (q + 1))))) = true from h166]; rfl)).trans (by omega))]; exact hl
                refine lv_goto (tgt := 108) C.1 C.2.1 dX12_member_179 (by decide) ?_
                exact ih_loopM (i + 1) _ ls _ hS hM (by omega) hl
      exact loopM (nf + 1 - 0) 0 _ ls _ hS hM (by omega) (lv_sub hl [0, 1, 2, 3, 4, 6, 7, 8] rfl)
