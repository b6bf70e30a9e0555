/-! the model: the octets of a code, within, codeItems -/
theorem i2s_U2 {F : Nat → Nat} (hF : isF F) (k : Nat) : (zI (U2 F k : Int)).toInt16.toInt32 = zI (S2 F k) := by
  have h := U2_lt hF k
  refine Int32.toInt_inj.1 ?_
  rw [Int16.toInt_toInt32, Int32.toInt_toInt16]
  show ((Int32.ofInt _).toInt).bmod _ = (Int32.ofInt _).toInt
  rw [Int32.toInt_ofInt, Int32.toInt_ofInt]
  unfold S2
  simp only [Int.bmod_def, show Int32.size = 4294967296 from rfl]
  split <;> (repeat' split) <;> omega
theorem S4_sm {F : Nat → Nat} (hF : isF F) {k : Nat} (h : 0 ≤ S4 F k) : S4 F k = (U4 F k : Int) := by
  have := U4_lt hF k
  unfold S4 at h ⊢
  by_cases q : U4 F k < 2147483648
  · rw [if_pos q]
  · rw [if_neg q] at h; omega
theorem S4_ng {F : Nat → Nat} (hF : isF F) {k : Nat} (h : S4 F k < 0) : 2147483648 ≤ U4 F k := by
  have := U4_lt hF k
  unfold S4 at h
  split at h <;> omega
theorem S4_or {F : Nat → Nat} (hF : isF F) (k : Nat) : (S4 F k = (U4 F k : Int) ∧ U4 F k < 2147483648) ∨ (S4 F k = (U4 F k : Int) - 4294967296 ∧ 2147483648 ≤ U4 F k) := by
  have := U4_lt hF k
  unfold S4
  split <;> omega
/-- the parts of the code at a: its end, its size, its catches -/
abbrev cE (F : Nat → Nat) (a : Nat) : Nat := a + 6 + U4 F (a + 2)
abbrev cS (F : Nat → Nat) (a : Nat) : Nat := U4 F (a + 10)
abbrev cN (F : Nat → Nat) (a : Nat) : Nat := U2 F (a + 14 + cS F a)
abbrev cH (F : Nat → Nat) (a : Nat) : Nat := a + 14 + cS F a + 2
def xBA (F : Nat → Nat) (e : Nat) : Nat → Nat → Option E2
  | 0, q => if q = e then none else some (14, q)
  | c + 1, q => if e < q + 6 then some (14, e) else if e < q + 6 + U4 F (q + 2) then some (14, e) else xBA F e c (q + 6 + U4 F (q + 2))
def xBody (F : Nat → Nat) (a : Nat) (pp : Int) : Option E2 :=
  if cE F a < a + 8 then some (14, cE F a) else if 24 < U2 F (a + 6) then some (13, a + 6) else if cE F a < a + 10 then some (14, cE F a) else if 24 < U2 F (a + 8) ∨ (U2 F (a + 8) : Int) < pp then some (13, a + 8) else
  if cE F a < a + 14 then some (14, cE F a) else if cS F a < 1 ∨ 1200 < cS F a then some (13, a + 10) else if cE F a < a + 14 + cS F a then some (14, cE F a) else if cE F a < cH F a then some (14, cE F a) else
  if 16 < cN F a then some (13, a + 14 + cS F a) else if cE F a < cH F a + 8 * cN F a + 2 then some (14, cE F a) else xBA F (cE F a) (U2 F (cH F a + 8 * cN F a)) (cH F a + 8 * cN F a + 2)
/-- what the model keeps of the code at a, as the i-th -/
def bdy (F : Nat → Nat) (i a : Nat) (σ σ' : mS) : Prop := σ'.1 31 = zI (cE F a : Int) ∧ σ'.2.1 25 = upd (σ.2.1 25) i (zI (U2 F (a + 6) : Int)) ∧ σ'.2.1 26 = upd (σ.2.1 26) i (zI (U2 F (a + 8) : Int)) ∧ σ'.2.1 27 = upd (σ.2.1 27) i (zI ((a + 14 : Nat) : Int)) ∧
  σ'.2.1 28 = upd (σ.2.1 28) i (zI (cS F a : Int)) ∧ σ'.2.1 30 = upd (σ.2.1 30) i (zI (cN F a : Int)) ∧ σ'.2.1 29 = upd (σ.2.1 29) i (zI (cH F a : Int))
theorem cdL_at {F tb : Nat → Nat} {a : Nat} : ∀ k, (cdL F tb a k).1 ≠ 0 → ∃ j, j < k ∧ (cdL F tb a k).2 = atp F a j := by
  intro k
  induction k with
  | zero => intro h; exact absurd rfl h
  | succ k ih =>
    intro h2
    by_cases h3 : isTxK F tb (U2 F (atp F a k)) 0 = true
    · rw [cdL_t h3]
      exact ⟨k, by omega, rfl⟩
    · rw [Bool.not_eq_true] at h3
      rw [cdL_f h3] at h2 ⊢
      obtain ⟨j, g1, g2⟩ := ih h2
      exact ⟨j, by omega, g2⟩
/-- the place of the code of the i-th method -/
abbrev cP (F tb mt : Nat → Nat) (nf i : Nat) : Nat := (cdA F tb (mt (nf + i) + 6)).2
theorem mLay.cd {σ : mS} {F : Nat → Nat} {n cl nf nm fa last : Nat} {tb mt : Nat → Nat} (hL : mLay σ F n tb cl nf nm mt fa last) (h12 : x12 F tb mt nf (nf + nm) = none) {i : Nat} (hi : i < nm) : cdR F tb (mt (nf + i) + 6) = (cP F tb mt nf i : Int) ∧ cP F tb mt nf i + 6 ≤ n ∧ cE F (cP F tb mt nf i) ≤ n := by
  have h1 := fst1_none _ _ h12 (nf + i) (by omega) (by omega)
  unfold g12 at h1
  split at h1
  · rename_i h2
    have hMt := (hL.2.2.2.2.2.2.2.2.2.2.1 (nf + i) (by omega))
    obtain ⟨j, g1, g2⟩ := cdL_at (F := F) (tb := tb) (a := mt (nf + i) + 6) (U2 F (mt (nf + i) + 6)) (fun z => by have z : (cdA F tb (mt (nf + i) + 6)).1 = 0 := z; omega)
    have g3 := (hMt.2.2 j g1).2.2
    have g4 : cP F tb mt nf i = atp F (mt (nf + i) + 6) j := g2
    refine ⟨?_, ?_, ?_⟩
    · unfold cdR
      rw [if_neg (by omega), if_pos h2]
    · rw [g4]; exact g3.1
    · rw [g4]; exact g3.2
  · exact absurd h1 (by simp)
theorem x10_m {F tb mt : Nat → Nat} {pc nf nm : Nat} (h : x10 F tb pc mt nf (nf + nm) = none) {i : Nat} (hi : i < nm) : 0 ≤ ppN F tb (U2 F (mt (nf + i) + 4)) ∧ ppN F tb (U2 F (mt (nf + i) + 4)) ≤ 24 := by
  obtain ⟨-, h1⟩ := or_none h
  have h2 := fst1_none _ _ h1 (nf + i) (Nat.zero_le _) (by omega)
  unfold g10m at h2
  rw [if_neg (by omega)] at h2
  split at h2
  · rename_i h3; omega
  · exact absurd h2 (by simp)
theorem xBA_s {F : Nat → Nat} {e c q : Nat} (h1 : q + 6 ≤ e) (h2 : q + 6 + U4 F (q + 2) ≤ e) : xBA F e (c + 1) q = xBA F e c (q + 6 + U4 F (q + 2)) := by
  conv => lhs; unfold xBA
  rw [if_neg (by omega), if_neg (by omega)]
theorem xBA_1 {F : Nat → Nat} {e c q : Nat} (h : ¬ (q + 6 ≤ e ∧ q + 6 + U4 F (q + 2) ≤ e)) : xBA F e (c + 1) q = some (14, e) := by
  unfold xBA
  by_cases h1 : q + 6 ≤ e
  · rw [if_neg (by omega), if_pos (by omega)]
  · rw [if_pos (by omega)]

set_option maxHeartbeats 4000000 in
set_option maxRecDepth 20000 in
theorem c_X12_codeOctet (l : Launch) (Z : zT) {H : Heap} {o : Nat} {ad : Nat → Nat} {σ : mS} (hM : isM Z H o ad σ) {F : Nat → Nat} {n : Nat} (hB : mSrc σ F n) {ca : Nat} (h32 : σ.1 32 = zI (ca : Int)) {t : Int} (k : Nat) (ht : t = (k : Int)) (hk : ca + k + 0 < n) : zP l Z yX12_codeOctet cX12_codeOctet 2 (some .int) (rmk 1) [.ref o, zV t] H (zN (F (ca + k))) := by
  subst ht
  have hn := hB.2.2.2
  refine zM.introI (own := RX12) ⟨by decide, rfl⟩ (Nat.le_of_ble_eq_true rfl) ?_
  intro p e s m args below meth c Q ls hH C hl hret
  have hS : va_S (fun _ => False) s.heap H [] := by rw [hH]; exact va_S.rf
  have hl : lv_has ls 2 [(0, .ref o), (1, zN k)] := hl
  refine lv_aload_n C.1 C.2.1 dX12_codeOctet_0 rfl (lv_at hl 0 rfl) ?_
  refine m_get C hM 7 (v := if σ.1 7 = 0 then .null else .ref (ad 0)) (by decide) zw_25_14 rfl rfl dX12_codeOctet_1 ?_
  refine z_reV (m7 hB.2.2.1) ?_
  refine lv_aload_n C.1 C.2.1 dX12_codeOctet_4 rfl (lv_at hl 0 rfl) ?_
  refine m_get C hM 32 (v := .int (σ.1 32)) (by decide) zw_31_20 rfl rfl dX12_codeOctet_5 ?_
  refine z_re (y := zI ((ca : Nat) : Int)) h32 ?_
  refine lv_iload_n C.1 C.2.1 dX12_codeOctet_8 rfl (lv_at hl 1 rfl) ?_
  refine y_iaddN C (a := ca) (b := k) dX12_codeOctet_9 ?_
  refine m_bld C hM (ca + k) (t := ((ca + k : Nat) : Int)) rfl (by omega) dX12_codeOctet_10 ?_
  refine z_re (y := zI (sb (F (ca + k)))) (hB.2.1 (ca + k) (by omega)) ?_
  refine lv_sipush (v := zI 255) C.1 C.2.1 dX12_codeOctet_11 (by decide) ?_
  refine lv_iand C.1 C.2.1 dX12_codeOctet_14 ?_
  refine z_re (y := zI ((F (ca + k) : Nat) : Int)) (and255 (hB.1 (ca + k))) ?_
  exact hret _ _ _ _ (zI ((F (ca + k) : Nat) : Int)) hS ⟨rfl, rfl⟩ rfl dX12_codeOctet_15

set_option maxHeartbeats 4000000 in
set_option maxRecDepth 20000 in
theorem c_X12_codeTwo (l : Launch) (Z : zT) {H : Heap} {o : Nat} {ad : Nat → Nat} {σ : mS} (hM : isM Z H o ad σ) {F : Nat → Nat} {n : Nat} (hB : mSrc σ F n) {ca : Nat} (h32 : σ.1 32 = zI (ca : Int)) {t : Int} (k : Nat) (ht : t = (k : Int)) (hk : ca + k + 1 < n) : zP l Z yX12_codeTwo cX12_codeTwo 2 (some .int) (rmk 3) [.ref o, zV t] H (zV (S2 F (ca + k))) := by
  subst ht
  have hn := hB.2.2.2
  refine zM.introI (own := RX12) ⟨by decide, rfl⟩ (Nat.le_of_ble_eq_true rfl) ?_
  intro p e s m args below meth c Q ls hH C hl hret
  have hS : va_S (fun _ => False) s.heap H [] := by rw [hH]; exact va_S.rf
  have hl : lv_has ls 2 [(0, .ref o), (1, zN k)] := hl
  refine lv_aload_n C.1 C.2.1 dX12_codeTwo_0 rfl (lv_at hl 0 rfl) ?_
  refine lv_aload_n C.1 C.2.1 dX12_codeTwo_1 rfl (lv_at hl 0 rfl) ?_
  refine m_get C hM 32 (v := .int (σ.1 32)) (by decide) zw_31_20 rfl rfl dX12_codeTwo_2 ?_
  refine z_re (y := zI ((ca : Nat) : Int)) h32 ?_
  refine lv_iload_n C.1 C.2.1 dX12_codeTwo_5 rfl (lv_at hl 1 rfl) ?_
  refine y_iaddN C (a := ca) (b := k) dX12_codeTwo_6 ?_
  refine z_readV C (As := [zN (ca + k)]) (rest := []) (c_X12_two l Z hM hB (ca + k) rfl (by omega)) hM.1 rfl ⟨⟨zw_27_11, zw_1_5, zw_27_8⟩, zd_X12_two⟩ zw_27_9 zw_27_10 ⟨Nat.le_of_ble_eq_true rfl, Nat.le_of_ble_eq_true rfl⟩ ⟨rfl, rfl⟩ rfl hl.1 rfl (Nat.le_of_ble_eq_true rfl) dX12_codeTwo_7 ⟨Nat.zero_le _, Nat.zero_le _⟩ hS (fun locs hS => ?_)
  have := U2_lt hB.1 (ca + k)
  refine lv_i2s (v := (zI ((U2 F (ca + k) : Nat) : Int)).toInt16.toInt32) C.1 C.2.1 dX12_codeTwo_10 rfl ?_
  refine z_re (y := zI (S2 F (ca + k))) (i2s_U2 hB.1 _) ?_
  exact hret _ _ _ _ (zI (S2 F (ca + k))) hS ⟨rfl, rfl⟩ rfl dX12_codeTwo_11

set_option maxHeartbeats 4000000 in
set_option maxRecDepth 20000 in
theorem c_X12_codeFour (l : Launch) (Z : zT) {H : Heap} {o : Nat} {ad : Nat → Nat} {σ : mS} (hM : isM Z H o ad σ) {F : Nat → Nat} {n : Nat} (hB : mSrc σ F n) {ca : Nat} (h32 : σ.1 32 = zI (ca : Int)) {t : Int} (k : Nat) (ht : t = (k : Int)) (hk : ca + k + 3 < n) : zP l Z yX12_codeFour cX12_codeFour 2 (some .int) (rmk 4) [.ref o, zV t] H (zV (S4 F (ca + k))) := by
  subst ht
  have hn := hB.2.2.2
  refine zM.introI (own := RX12) ⟨by decide, rfl⟩ (Nat.le_of_ble_eq_true rfl) ?_
  intro p e s m args below meth c Q ls hH C hl hret
  have hS : va_S (fun _ => False) s.heap H [] := by rw [hH]; exact va_S.rf
  have hl : lv_has ls 2 [(0, .ref o), (1, zN k)] := hl
  refine lv_aload_n C.1 C.2.1 dX12_codeFour_0 rfl (lv_at hl 0 rfl) ?_
  refine lv_aload_n C.1 C.2.1 dX12_codeFour_1 rfl (lv_at hl 0 rfl) ?_
  refine m_get C hM 32 (v := .int (σ.1 32)) (by decide) zw_31_20 rfl rfl dX12_codeFour_2 ?_
  refine z_re (y := zI ((ca : Nat) : Int)) h32 ?_
  refine lv_iload_n C.1 C.2.1 dX12_codeFour_5 rfl (lv_at hl 1 rfl) ?_
  refine y_iaddN C (a := ca) (b := k) dX12_codeFour_6 ?_
  refine z_readV C (As := [zN (ca + k)]) (rest := []) (c_X12_four l Z hM hB (ca + k) rfl (by omega)) hM.1 rfl ⟨⟨zw_28_2, zw_1_5, zw_27_23⟩, zd_X12_four⟩ zw_28_0 zw_28_1 ⟨Nat.le_of_ble_eq_true rfl, Nat.le_of_ble_eq_true rfl⟩ ⟨rfl, rfl⟩ rfl hl.1 rfl (Nat.le_of_ble_eq_true rfl) dX12_codeFour_7 ⟨Nat.zero_le _, Nat.zero_le _⟩ hS (fun locs hS => ?_)
  have := S4_rg hB.1 (ca + k)
  exact hret _ _ _ _ (zI (S4 F (ca + k))) hS ⟨rfl, rfl⟩ rfl dX12_codeFour_10

set_option maxHeartbeats 4000000 in
set_option maxRecDepth 20000 in
theorem c_X12_within (l : Launch) (Z : zT) {H : Heap} {o : Nat} {ad : Nat → Nat} {σ : mS} (hM : isM Z H o ad σ) {q n b : Nat} (h9 : σ.1 9 = zI (q : Int)) (h31 : σ.1 31 = zI (n : Int)) (hp : q ≤ 16000) (hn : n ≤ 16000) (hb : b < 8589934592) : zX l Z yX12_within cX12_within 4 (some .int) (rmk 2) [.ref o, .long (zL (b : Int))] H (mA o ad) 0 0 (fun v H' => q + b ≤ n ∧ v = some (zN q) ∧ isM Z H' o ad (sx σ 9 (zI ((q + b : Nat) : Int)))) (fun H' => ¬ q + b ≤ n ∧ isM Z H' o ad (sx (sx σ 4 (zI 14)) 5 (zI (n : Int)))) := by
  refine zX.introI (own := RX12) ⟨by decide, rfl⟩ (Nat.le_of_ble_eq_true rfl) ?_
  intro p e s m args below meth c Q ls hH C hl hth hret
  have hS : va_S (mA o ad) s.heap H [] := by rw [hH]; exact va_S.rf
  have hl : lv_has ls 4 [(0, .ref o), (1, .long (zL (b : Int)))] := hl
  refine lv_aload_n C.1 C.2.1 dX12_within_0 rfl (lv_at hl 0 rfl) ?_
  refine m_get C hM 9 (v := .int (σ.1 9)) (by decide) zw_26_7 rfl rfl dX12_within_1 ?_
  refine z_re (y := zI ((q : Nat) : Int)) h9 ?_
  refine y_i2l C (a := ((q : Nat) : Int)) (by omega) dX12_within_4 ?_
  refine lv_lload_n C.1 C.2.1 dX12_within_5 rfl (lv_at hl 1 rfl) ?_
  refine y_ladd C (a := ((q : Nat) : Int)) (b := (b : Int)) dX12_within_6 ?_
  refine lv_aload_n C.1 C.2.1 dX12_within_7 rfl (lv_at hl 0 rfl) ?_
  refine m_get C hM 31 (v := .int (σ.1 31)) (by decide) zw_31_9 rfl rfl dX12_within_8 ?_
  refine z_re (y := zI ((n : Nat) : Int)) h31 ?_
  refine y_i2l C (a := ((n : Nat) : Int)) (by omega) dX12_within_11 ?_
  refine y_lif_le (tgt := 27) C (a := ((q : Nat) : Int) + (b : Int)) (b := ((n : Nat) : Int)) dX12_within_12 dX12_within_13 (by decide) (by omega) (fun h12 => ?_) (fun h12 => ?_)
  · refine lv_aload_n C.1 C.2.1 dX12_within_27 rfl (lv_at hl 0 rfl) ?_
    refine m_get C hM 9 (v := .int (σ.1 9)) (by decide) zw_26_7 rfl rfl dX12_within_28 ?_
    refine z_re (y := zI ((q : Nat) : Int)) h9 ?_
    refine lv_istore_n (lv' := [(3, zN q), (0, .ref o), (1, .long (zL (b : Int)))]) C.1 C.2.1 dX12_within_31 rfl hl (by decide) rfl (fun ls hl => ?_)
    refine lv_aload_n C.1 C.2.1 dX12_within_32 rfl (lv_at hl 1 rfl) ?_
    refine lv_dup C.1 C.2.1 dX12_within_33 rfl ?_
    refine m_get C hM 9 (v := .int (σ.1 9)) (by decide) zw_26_7 rfl rfl dX12_within_34 ?_
    refine z_re (y := zI ((q : Nat) : Int)) h9 ?_
    refine lv_lload_n C.1 C.2.1 dX12_within_37 rfl (lv_at hl 2 rfl) ?_
    refine y_l2i C (a := (b : Int)) dX12_within_38 ?_
    refine y_iadd C (a := ((q : Nat) : Int)) (b := (b : Int)) dX12_within_39 ?_
    refine z_re (y := zI ((q + b : Nat) : Int)) rfl ?_
    refine m_put C hM 9 (sx σ 9 (zI ((q + b : Nat) : Int))) rfl rfl (by decide) zw_26_7 rfl rfl rfl rfl hS dX12_within_40 (fun H locs hM hS => ?_)
    refine lv_iload_n C.1 C.2.1 dX12_within_43 rfl (lv_at hl 0 rfl) ?_
    exact hret _ _ _ _ (zI ((q : Nat) : Int)) hS ⟨by omega, rfl, hM⟩ rfl dX12_within_44
  · refine lv_aload_n C.1 C.2.1 dX12_within_16 rfl (lv_at hl 0 rfl) ?_
    refine lv_bipush (v := zI 14) C.1 C.2.1 dX12_within_17 (by decide) ?_
    refine lv_aload_n C.1 C.2.1 dX12_within_19 rfl (lv_at hl 0 rfl) ?_
    refine m_get C hM 31 (v := .int (σ.1 31)) (by decide) zw_31_9 rfl rfl dX12_within_20 ?_
    refine z_re (y := zI ((n : Nat) : Int)) h31 ?_
    refine z_callV C (As := [zN 14, zN n]) (rest := []) (c_X12_broken l Z hM (zI 14) (zI ((n : Nat) : Int))) hM.1 rfl ⟨⟨zw_26_20, zw_1_5, zw_26_17⟩, zd_X12_broken⟩ zw_26_18 zw_26_19 ⟨Nat.le_of_ble_eq_true rfl, Nat.le_of_ble_eq_true rfl⟩ ⟨rfl, rfl⟩ rfl hl.1 rfl (Nat.le_of_ble_eq_true rfl) dX12_within_23 ⟨Nat.zero_le _, Nat.zero_le _⟩ hS (fun _ h => h) (fun v H locs hp hS _ _ => ?_)
    obtain ⟨rfl, hM⟩ := hp
    obtain ⟨ce, g1, g2, g3⟩ := hM.exc C.2.2.2.2.2.1
    refine vx_athrow C.1 C.2.1 dX12_within_26 ?_
    exact hth _ _ _ _ _ _ _ hS (⟨by omega, hM⟩) g1 g2 g3

set_option maxHeartbeats 4000000 in
set_option maxRecDepth 20000 in
theorem c_X12_codeItems (l : Launch) (Z : zT) {H : Heap} {o : Nat} {ad : Nat → Nat} {σ : mS} (hM : isM Z H o ad σ) {F : Nat → Nat} {n : Nat} (hB : mSrc σ F n) {cl nf nm fa last : Nat} {tb mt : Nat → Nat} (hL : mLay σ F n tb cl nf nm mt fa last) (hx9 : x9 F tb (U2 F 8) mt (nf + nm) fa = none) (hx10 : x10 F tb (U2 F 8) mt nf (nf + nm) = none) (hx12 : x12 F tb mt nf (nf + nm) = none) (i : Nat) (hi0 : i < nm) : zX l Z yX12_codeItems cX12_codeItems 9 none (rmk 9) [.ref o, zN i] H (mA o ad) 0 0 (fun v H' => v = none ∧ xBody F (cP F tb mt nf i) (ppN F tb (U2 F (mt (nf + i) + 4))) = none ∧ ∃ σ' : mS, isM Z H' o ad σ' ∧ chg [4, 5, 9, 31] [25, 26, 27, 28, 29, 30] σ σ' ∧ bdy F i (cP F tb mt nf i) σ σ') (fun H' => ∃ r w : Nat, xBody F (cP F tb mt nf i) (ppN F tb (U2 F (mt (nf + i) + 4))) = some (r, w) ∧ mBrk Z o ad [4, 5, 9, 31] [25, 26, 27, 28, 29, 30] σ r w H') := by
  have hB0 := hB
  have hn := hB.2.2.2
  have hpc := hL.2.1
  have hcl := hL.2.2.2.2.2.1
  have hnf := hL.2.2.2.2.2.2.2.2.1
  have hnm := hL.2.2.2.2.2.2.2.2.2.1
  have hMt := hL.2.2.2.2.2.2.2.2.2.2.1
  have hna := hL.2.2.2.2.2.2.2.2.2.2.2.2.1
  have hfa := hL.2.2.2.2.2.2.2.2.2.2.2.2.2.1
  obtain ⟨hcd, hc1, hc2⟩ := hL.cd hx12 hi0
  obtain ⟨hpp1, hpp2⟩ := x10_m hx10 hi0
  generalize cP F tb mt nf i = a at hcd hc1 hc2 ⊢
  have hu10 := U4_lt hB.1 (a + 10)
  have hu2 := U4_lt hB.1 (a + 2)
  have hmn := (hMt (nf + i) (by omega)).2.1
  have hs4 := S4_or hB.1 (a + 10)
  have hcs : cS F a = U4 F (a + 10) := rfl
  have hce : cE F a = a + 6 + U4 F (a + 2) := rfl
  have hch : cH F a = a + 14 + cS F a + 2 := rfl
  have hcn : cN F a = U2 F (a + 14 + cS F a) := rfl
  refine zX.introV (own := RX12) ⟨by decide, rfl⟩ (Nat.le_of_ble_eq_true rfl) ?_
  intro p e s m args below meth c Q ls hH C hl hth hret
  have hS : va_S (mA o ad) s.heap H [] := by rw [hH]; exact va_S.rf
  have hl : lv_has ls 9 [(0, .ref o), (1, zN i)] := hl
  refine lv_aload_n C.1 C.2.1 dX12_codeItems_0 rfl (lv_at hl 0 rfl) ?_
  refine lv_aload_n C.1 C.2.1 dX12_codeItems_1 rfl (lv_at hl 0 rfl) ?_
  refine m_get C hM 18 (v := .int (σ.1 18)) (by decide) zw_26_0 rfl rfl dX12_codeItems_2 ?_
  refine z_re (y := zI ((nf : Nat) : Int)) hL.2.2.2.2.2.2.2.1 ?_
  refine lv_iload_n C.1 C.2.1 dX12_codeItems_5 rfl (lv_at hl 1 rfl) ?_
  refine y_iaddN C (a := nf) (b := i) dX12_codeItems_6 ?_
  refine z_readV C (As := [zN (nf + i)]) (rest := []) (c_X12_codeOf l Z hM hB hL hx9 (nf + i) rfl (by omega)) hM.1 rfl ⟨⟨zw_30_22, zw_1_5, zw_30_19⟩, zd_X12_codeOf⟩ zw_30_20 zw_30_21 ⟨Nat.le_of_ble_eq_true rfl, Nat.le_of_ble_eq_true rfl⟩ ⟨rfl, rfl⟩ rfl hl.1 rfl (Nat.le_of_ble_eq_true rfl) dX12_codeItems_7 ⟨Nat.zero_le _, Nat.zero_le _⟩ hS (fun locs hS => ?_)
  refine z_re (y := zI ((a : Nat) : Int)) (by rw [hcd]) ?_
  refine lv_istore_n (lv' := [(2, zN a), (0, .ref o), (1, zN i)]) C.1 C.2.1 dX12_codeItems_10 rfl hl (by decide) rfl (fun ls hl => ?_)
  refine lv_aload_n C.1 C.2.1 dX12_codeItems_11 rfl (lv_at hl 1 rfl) ?_
  refine lv_iload_n C.1 C.2.1 dX12_codeItems_12 rfl (lv_at hl 0 rfl) ?_
  refine lv_bipush (v := zI 6) C.1 C.2.1 dX12_codeItems_13 (by decide) ?_
  refine y_iaddN C (a := a) (b := 6) dX12_codeItems_15 ?_
  refine m_put C hM 9 (sx σ 9 (zI ((a + 6 : Nat) : Int))) rfl rfl (by decide) zw_26_7 rfl rfl rfl rfl hS dX12_codeItems_16 (fun H locs hM hS => ?_)
  refine lv_aload_n C.1 C.2.1 dX12_codeItems_19 rfl (lv_at hl 1 rfl) ?_
  refine lv_aload_n C.1 C.2.1 dX12_codeItems_20 rfl (lv_at hl 1 rfl) ?_
  refine m_get C hM 9 (v := .int ((sx σ 9 (zI ((a + 6 : Nat) : Int))).1 9)) (by decide) zw_26_7 rfl rfl dX12_codeItems_21 ?_
  refine z_re (y := zI ((a + 6 : Nat) : Int)) rfl ?_
  refine y_i2l C (a := ((a + 6 : Nat) : Int)) (by omega) dX12_codeItems_24 ?_
  refine lv_aload_n C.1 C.2.1 dX12_codeItems_25 rfl (lv_at hl 1 rfl) ?_
  refine lv_iload_n C.1 C.2.1 dX12_codeItems_26 rfl (lv_at hl 0 rfl) ?_
  refine lv_iconst (v := zI 2) C.1 C.2.1 dX12_codeItems_27 (by decide) ?_
  refine y_iaddN C (a := a) (b := 2) dX12_codeItems_28 ?_
  refine z_readV C (As := [zN (a + 2)]) (rest := [.long (zL ((a + 6 : Nat) : Int)), .ref o]) (c_X12_four l Z hM hB (a + 2) rfl (by omega)) hM.1 rfl ⟨⟨zw_28_2, zw_1_5, zw_27_23⟩, zd_X12_four⟩ zw_28_0 zw_28_1 ⟨Nat.le_of_ble_eq_true rfl, Nat.le_of_ble_eq_true rfl⟩ ⟨rfl, rfl⟩ rfl hl.1 rfl (Nat.le_of_ble_eq_true rfl) dX12_codeItems_29 ⟨Nat.zero_le _, Nat.zero_le _⟩ hS (fun locs hS => ?_)
  have := S4_rg hB.1 (a + 2)
  refine y_i2l C (a := S4 F (a + 2)) (by omega) dX12_codeItems_32 ?_
  refine lv_ldc2 (v := zL 4294967295) C.1 C.2.1 C.2.2.2.1 (C.2.2.2.2.1 _ zw_27_18) dX12_codeItems_33 ?_
  refine lv_land C.1 C.2.1 dX12_codeItems_36 ?_
  refine z_reL (y := (zL ((U4 F (a + 2) : Nat) : Int))) (land_U4 hB.1 _) ?_
  refine y_ladd C (a := ((a + 6 : Nat) : Int)) (b := ((U4 F (a + 2) : Nat) : Int)) dX12_codeItems_37 ?_
  refine y_l2i C (a := ((a + 6 : Nat) : Int) + ((U4 F (a + 2) : Nat) : Int)) dX12_codeItems_38 ?_
  refine z_re (y := zI ((cE F a : Nat) : Int)) rfl ?_
  refine m_put C hM 31 (sx (sx σ 9 (zI ((a + 6 : Nat) : Int))) 31 (zI ((cE F a : Nat) : Int))) rfl rfl (by decide) zw_31_9 rfl rfl rfl rfl hS dX12_codeItems_39 (fun H locs hM hS => ?_)
  refine lv_aload_n C.1 C.2.1 dX12_codeItems_42 rfl (lv_at hl 1 rfl) ?_
  refine lv_aload_n C.1 C.2.1 dX12_codeItems_43 rfl (lv_at hl 1 rfl) ?_
  refine lv_aload_n C.1 C.2.1 dX12_codeItems_44 rfl (lv_at hl 1 rfl) ?_
  refine m_get C hM 20 (v := .ref (ad 20)) (by decide) zw_5_4 rfl rfl dX12_codeItems_45 ?_
  refine lv_aload_n C.1 C.2.1 dX12_codeItems_48 rfl (lv_at hl 1 rfl) ?_
  refine m_get C hM 18 (v := .int ((sx (sx σ 9 (zI ((a + 6 : Nat) : Int))) 31 (zI ((cE F a : Nat) : Int))).1 18)) (by decide) zw_26_0 rfl rfl dX12_codeItems_49 ?_
  refine z_re (y := zI ((nf : Nat) : Int)) hL.2.2.2.2.2.2.2.1 ?_
  refine lv_iload_n C.1 C.2.1 dX12_codeItems_52 rfl (lv_at hl 2 rfl) ?_
  refine y_iaddN C (a := nf) (b := i) dX12_codeItems_53 ?_
  refine m_ald C hM 20 (by decide) (nf + i) (t := ((nf + i : Nat) : Int)) rfl (by show _ < 48; omega) dX12_codeItems_54 ?_
  refine z_re (y := zI ((mt (nf + i) : Nat) : Int)) ((hMt (nf + i) (by omega)).1) ?_
  refine lv_iconst (v := zI 4) C.1 C.2.1 dX12_codeItems_55 (by decide) ?_
  refine y_iaddN C (a := mt (nf + i)) (b := 4) dX12_codeItems_56 ?_
  refine z_readV C (As := [zN ((mt (nf + i)) + 4)]) (rest := [.ref o]) (c_X12_two l Z hM hB ((mt (nf + i)) + 4) rfl (by omega)) hM.1 rfl ⟨⟨zw_27_11, zw_1_5, zw_27_8⟩, zd_X12_two⟩ zw_27_9 zw_27_10 ⟨Nat.le_of_ble_eq_true rfl, Nat.le_of_ble_eq_true rfl⟩ ⟨rfl, rfl⟩ rfl hl.1 rfl (Nat.le_of_ble_eq_true rfl) dX12_codeItems_57 ⟨Nat.zero_le _, Nat.zero_le _⟩ hS (fun locs hS => ?_)
  have := U2_lt hB.1 ((mt (nf + i)) + 4)
  refine z_readV C (As := [zN (U2 F ((mt (nf + i)) + 4))]) (rest := []) (c_X12_parameterPlaces l Z hM hB (hL.nm (x9_m hx9 (i := nf + i) (by omega)).2.1)) hM.1 rfl ⟨⟨zw_30_6, zw_1_5, zw_30_3⟩, zd_X12_parameterPlaces⟩ zw_30_4 zw_30_5 ⟨Nat.le_of_ble_eq_true rfl, Nat.le_of_ble_eq_true rfl⟩ ⟨rfl, rfl⟩ rfl hl.1 rfl (Nat.le_of_ble_eq_true rfl) dX12_codeItems_60 ⟨Nat.zero_le _, Nat.zero_le _⟩ hS (fun locs hS => ?_)
  refine lv_istore_n (lv' := [(3, zV (ppN F tb (U2 F (mt (nf + i) + 4)))), (2, zN a), (0, .ref o), (1, zN i)]) C.1 C.2.1 dX12_codeItems_63 rfl hl (by decide) rfl (fun ls hl => ?_)
  refine lv_aload_n C.1 C.2.1 dX12_codeItems_64 rfl (lv_at hl 2 rfl) ?_
  refine lv_ldc2 (v := zL 2) C.1 C.2.1 C.2.2.2.1 (C.2.2.2.2.1 _ zw_26_8) dX12_codeItems_65 ?_
  refine z_callVX C (As := [.long (zL 2)]) (rest := []) (c_X12_within l Z (n := cE F a) (q := a + 6) (b := 2) hM (rfl) (rfl) (by omega) (by omega) (by omega)) hM.1 rfl ⟨⟨zw_31_13, zw_1_5, zw_31_10⟩, zd_X12_within⟩ zw_31_11 zw_31_12 ⟨Nat.le_of_ble_eq_true rfl, Nat.le_of_ble_eq_true rfl⟩ ⟨rfl, rfl⟩ rfl hl.1 rfl (Nat.le_of_ble_eq_true rfl) dX12_codeItems_68 ⟨Nat.zero_le _, Nat.zero_le _⟩ hS (fun _ h => h) (fun H9 locs9 q9 ce9 hp9 hS9 _ _ g1 g2 g3 => ?_) (fun v H locs hp hS _ _ => ?_)
  · exact hth _ _ _ _ _ _ _ hS9 (⟨14, cE F a, (by unfold xBody; rw [if_pos (by omega)]), ⟨_, hp9.2, rfl, rfl, (chg_sx (by decide) (chg_sx (by decide) (chg_sx (by decide) (chg_sx (by decide) chg.rf))))⟩⟩) g1 g2 g3
  obtain ⟨ho68, rfl, hM⟩ := hp
  refine lv_istore (lv' := [(4, zN (a + 6)), (3, zV (ppN F tb (U2 F (mt (nf + i) + 4)))), (2, zN a), (0, .ref o), (1, zN i)]) C.1 C.2.1 dX12_codeItems_71 hl (by decide) rfl (fun ls hl => ?_)
  refine lv_aload_n C.1 C.2.1 dX12_codeItems_73 rfl (lv_at hl 3 rfl) ?_
  refine m_get C hM 25 (v := .ref (ad 25)) (by decide) zw_5_7 rfl rfl dX12_codeItems_74 ?_
  refine lv_iload_n C.1 C.2.1 dX12_codeItems_77 rfl (lv_at hl 4 rfl) ?_
  refine lv_aload_n C.1 C.2.1 dX12_codeItems_78 rfl (lv_at hl 3 rfl) ?_
  refine lv_iload C.1 C.2.1 dX12_codeItems_79 (lv_at hl 0 rfl) ?_
  refine z_readV C (As := [zN (a + 6)]) (rest := [zN i, .ref (ad 25)]) (c_X12_two l Z hM hB (a + 6) rfl (by omega)) hM.1 rfl ⟨⟨zw_27_11, zw_1_5, zw_27_8⟩, zd_X12_two⟩ zw_27_9 zw_27_10 ⟨Nat.le_of_ble_eq_true rfl, Nat.le_of_ble_eq_true rfl⟩ ⟨rfl, rfl⟩ rfl hl.1 rfl (Nat.le_of_ble_eq_true rfl) dX12_codeItems_81 ⟨Nat.zero_le _, Nat.zero_le _⟩ hS (fun locs hS => ?_)
  have := U2_lt hB.1 (a + 6)
  refine m_ast C hM 25 (by decide) i (t := ((i : Nat) : Int)) rfl (by show _ < 24; omega) hS dX12_codeItems_84 (fun H locs hM hS => ?_)
  refine lv_aload_n C.1 C.2.1 dX12_codeItems_85 rfl (lv_at hl 3 rfl) ?_
  refine lv_aload_n C.1 C.2.1 dX12_codeItems_86 rfl (lv_at hl 3 rfl) ?_
  refine m_get C hM 25 (v := .ref (ad 25)) (by decide) zw_5_7 rfl rfl dX12_codeItems_87 ?_
  refine lv_iload_n C.1 C.2.1 dX12_codeItems_90 rfl (lv_at hl 4 rfl) ?_
  refine m_ald C hM 25 (by decide) i (t := ((i : Nat) : Int)) rfl (by show _ < 24; omega) dX12_codeItems_91 ?_
  refine z_re (y := zI ((U2 F (a + 6) : Nat) : Int)) upd_2 ?_
  refine lv_bipush (v := zI 24) C.1 C.2.1 dX12_codeItems_92 (by decide) ?_
  refine y_icmp_gt (tgt := 101) C (a := ((U2 F (a + 6) : Nat) : Int)) (b := 24) dX12_codeItems_94 (by decide) (by omega) (fun h94 => ?_) (fun h94 => ?_)
  · refine lv_iconst (v := zI 0) C.1 C.2.1 dX12_codeItems_101 (by decide) ?_
    refine lv_bipush (v := zI 13) C.1 C.2.1 dX12_codeItems_102 (by decide) ?_
    refine lv_iload C.1 C.2.1 dX12_codeItems_104 (lv_at hl 0 rfl) ?_
    refine z_callVX C (As := [zV (bI false), zN 13, zN (a + 6)]) (rest := []) (c_X12_must l Z hM false (zI 13) (zI ((a + 6 : Nat) : Int))) hM.1 rfl ⟨⟨zw_26_16, zw_1_5, zw_26_13⟩, zd_X12_must⟩ zw_26_14 zw_26_15 ⟨Nat.le_of_ble_eq_true rfl, Nat.le_of_ble_eq_true rfl⟩ ⟨rfl, rfl⟩ rfl hl.1 rfl (Nat.le_of_ble_eq_true rfl) dX12_codeItems_106 ⟨Nat.zero_le _, Nat.zero_le _⟩ hS (fun _ h => h) (fun H9 locs9 q9 ce9 hp9 hS9 _ _ g1 g2 g3 => ?_) (fun v H locs hp hS _ _ => ?_)
    · exact hth _ _ _ _ _ _ _ hS9 (⟨13, (a + 6), (by unfold xBody; rw [if_neg (by omega), if_pos (by omega)]), ⟨_, hp9.2, rfl, rfl, (chg_sx (by decide) (chg_sx (by decide) (chg_sf (by decide) (chg_sx (by decide) (chg_sx (by decide) (chg_sx (by decide) chg.rf))))))⟩⟩) g1 g2 g3
    exact absurd hp.1 (by decide)
  · refine lv_iconst (v := zI 1) C.1 C.2.1 dX12_codeItems_97 (by decide) ?_
    refine lv_goto (tgt := 102) C.1 C.2.1 dX12_codeItems_98 (by decide) ?_
    refine lv_bipush (v := zI 13) C.1 C.2.1 dX12_codeItems_102 (by decide) ?_
    refine lv_iload C.1 C.2.1 dX12_codeItems_104 (lv_at hl 0 rfl) ?_
    refine z_callVX C (As := [zV (bI true), zN 13, zN (a + 6)]) (rest := []) (c_X12_must l Z hM true (zI 13) (zI ((a + 6 : Nat) : Int))) hM.1 rfl ⟨⟨zw_26_16, zw_1_5, zw_26_13⟩, zd_X12_must⟩ zw_26_14 zw_26_15 ⟨Nat.le_of_ble_eq_true rfl, Nat.le_of_ble_eq_true rfl⟩ ⟨rfl, rfl⟩ rfl hl.1 rfl (Nat.le_of_ble_eq_true rfl) dX12_codeItems_106 ⟨Nat.zero_le _, Nat.zero_le _⟩ hS (fun _ h => h) (fun H9 locs9 q9 ce9 hp9 hS9 _ _ g1 g2 g3 => ?_) (fun v H locs hp hS _ _ => ?_)
    · exact absurd hp9.1 (by decide)
    obtain ⟨-, rfl, hM⟩ := hp
    refine lv_aload_n C.1 C.2.1 dX12_codeItems_109 rfl (lv_at hl 3 rfl) ?_
    refine lv_ldc2 (v := zL 2) C.1 C.2.1 C.2.2.2.1 (C.2.2.2.2.1 _ zw_26_8) dX12_codeItems_110 ?_
    refine z_callVX C (As := [.long (zL 2)]) (rest := []) (c_X12_within l Z (n := cE F a) (q := a + 8) (b := 2) hM (rfl) (rfl) (by omega) (by omega) (by omega)) hM.1 rfl ⟨⟨zw_31_13, zw_1_5, zw_31_10⟩, zd_X12_within⟩ zw_31_11 zw_31_12 ⟨Nat.le_of_ble_eq_true rfl, Nat.le_of_ble_eq_true rfl⟩ ⟨rfl, rfl⟩ rfl hl.1 rfl (Nat.le_of_ble_eq_true rfl) dX12_codeItems_113 ⟨Nat.zero_le _, Nat.zero_le _⟩ hS (fun _ h => h) (fun H9 locs9 q9 ce9 hp9 hS9 _ _ g1 g2 g3 => ?_) (fun v H locs hp hS _ _ => ?_)
    · exact hth _ _ _ _ _ _ _ hS9 (⟨14, cE F a, (by unfold xBody; rw [if_neg (by omega), if_neg (by omega), if_pos (by omega)]), ⟨_, hp9.2, rfl, rfl, (chg_sx (by decide) (chg_sx (by decide) (chg_sf (by decide) (chg_sx (by decide) (chg_sx (by decide) (chg_sx (by decide) chg.rf))))))⟩⟩) g1 g2 g3
    obtain ⟨ho113, rfl, hM⟩ := hp
    refine lv_istore (lv' := [(4, zN (a + 8)), (3, zV (ppN F tb (U2 F (mt (nf + i) + 4)))), (2, zN a), (0, .ref o), (1, zN i)]) C.1 C.2.1 dX12_codeItems_116 hl (by decide) rfl (fun ls hl => ?_)
    refine lv_aload_n C.1 C.2.1 dX12_codeItems_118 rfl (lv_at hl 3 rfl) ?_
    refine m_get C hM 26 (v := .ref (ad 26)) (by decide) zw_5_8 rfl rfl dX12_codeItems_119 ?_
    refine lv_iload_n C.1 C.2.1 dX12_codeItems_122 rfl (lv_at hl 4 rfl) ?_
    refine lv_aload_n C.1 C.2.1 dX12_codeItems_123 rfl (lv_at hl 3 rfl) ?_
    refine lv_iload C.1 C.2.1 dX12_codeItems_124 (lv_at hl 0 rfl) ?_
    refine z_readV C (As := [zN (a + 8)]) (rest := [zN i, .ref (ad 26)]) (c_X12_two l Z hM hB (a + 8) rfl (by omega)) hM.1 rfl ⟨⟨zw_27_11, zw_1_5, zw_27_8⟩, zd_X12_two⟩ zw_27_9 zw_27_10 ⟨Nat.le_of_ble_eq_true rfl, Nat.le_of_ble_eq_true rfl⟩ ⟨rfl, rfl⟩ rfl hl.1 rfl (Nat.le_of_ble_eq_true rfl) dX12_codeItems_126 ⟨Nat.zero_le _, Nat.zero_le _⟩ hS (fun locs hS => ?_)
    have := U2_lt hB.1 (a + 8)
    refine m_ast C hM 26 (by decide) i (t := ((i : Nat) : Int)) rfl (by show _ < 24; omega) hS dX12_codeItems_129 (fun H locs hM hS => ?_)
    refine lv_aload_n C.1 C.2.1 dX12_codeItems_130 rfl (lv_at hl 3 rfl) ?_
    refine lv_aload_n C.1 C.2.1 dX12_codeItems_131 rfl (lv_at hl 3 rfl) ?_
    refine m_get C hM 26 (v := .ref (ad 26)) (by decide) zw_5_8 rfl rfl dX12_codeItems_132 ?_
    refine lv_iload_n C.1 C.2.1 dX12_codeItems_135 rfl (lv_at hl 4 rfl) ?_
    refine m_ald C hM 26 (by decide) i (t := ((i : Nat) : Int)) rfl (by show _ < 24; omega) dX12_codeItems_136 ?_
    refine z_re (y := zI ((U2 F (a + 8) : Nat) : Int)) upd_2 ?_
    refine lv_bipush (v := zI 24) C.1 C.2.1 dX12_codeItems_137 (by decide) ?_
    refine y_icmp_gt (tgt := 156) C (a := ((U2 F (a + 8) : Nat) : Int)) (b := 24) dX12_codeItems_139 (by decide) (by omega) (fun h139 => ?_) (fun h139 => ?_)
    · refine lv_iconst (v := zI 0) C.1 C.2.1 dX12_codeItems_156 (by decide) ?_
      refine lv_bipush (v := zI 13) C.1 C.2.1 dX12_codeItems_157 (by decide) ?_
      refine lv_iload C.1 C.2.1 dX12_codeItems_159 (lv_at hl 0 rfl) ?_
      refine z_callVX C (As := [zV (bI false), zN 13, zN (a + 8)]) (rest := []) (c_X12_must l Z hM false (zI 13) (zI ((a + 8 : Nat) : Int))) hM.1 rfl ⟨⟨zw_26_16, zw_1_5, zw_26_13⟩, zd_X12_must⟩ zw_26_14 zw_26_15 ⟨Nat.le_of_ble_eq_true rfl, Nat.le_of_ble_eq_true rfl⟩ ⟨rfl, rfl⟩ rfl hl.1 rfl (Nat.le_of_ble_eq_true rfl) dX12_codeItems_161 ⟨Nat.zero_le _, Nat.zero_le _⟩ hS (fun _ h => h) (fun H9 locs9 q9 ce9 hp9 hS9 _ _ g1 g2 g3 => ?_) (fun v H locs hp hS _ _ => ?_)
      · exact hth _ _ _ _ _ _ _ hS9 (⟨13, (a + 8), (by unfold xBody; rw [if_neg (by omega), if_neg (by omega), if_neg (by omega), if_pos (by omega)]), ⟨_, hp9.2, rfl, rfl, (chg_sx (by decide) (chg_sx (by decide) (chg_sf (by decide) (chg_sx (by decide) (chg_sf (by decide) (chg_sx (by decide) (chg_sx (by decide) (chg_sx (by decide) chg.rf))))))))⟩⟩) g1 g2 g3
      exact absurd hp.1 (by decide)
    · refine lv_aload_n C.1 C.2.1 dX12_codeItems_142 rfl (lv_at hl 3 rfl) ?_
      refine m_get C hM 26 (v := .ref (ad 26)) (by decide) zw_5_8 rfl rfl dX12_codeItems_143 ?_
      refine lv_iload_n C.1 C.2.1 dX12_codeItems_146 rfl (lv_at hl 4 rfl) ?_
      refine m_ald C hM 26 (by decide) i (t := ((i : Nat) : Int)) rfl (by show _ < 24; omega) dX12_codeItems_147 ?_
      refine z_re (y := zI ((U2 F (a + 8) : Nat) : Int)) upd_2 ?_
      refine lv_iload_n C.1 C.2.1 dX12_codeItems_148 rfl (lv_at hl 1 rfl) ?_
      refine y_icmp_lt (tgt := 156) C (a := ((U2 F (a + 8) : Nat) : Int)) (b := ppN F tb (U2 F (mt (nf + i) + 4))) dX12_codeItems_149 (by decide) (by omega) (fun h149 => ?_) (fun h149 => ?_)
      · refine lv_iconst (v := zI 0) C.1 C.2.1 dX12_codeItems_156 (by decide) ?_
        refine lv_bipush (v := zI 13) C.1 C.2.1 dX12_codeItems_157 (by decide) ?_
        refine lv_iload C.1 C.2.1 dX12_codeItems_159 (lv_at hl 0 rfl) ?_
        refine z_callVX C (As := [zV (bI false), zN 13, zN (a + 8)]) (rest := []) (c_X12_must l Z hM false (zI 13) (zI ((a + 8 : Nat) : Int))) hM.1 rfl ⟨⟨zw_26_16, zw_1_5, zw_26_13⟩, zd_X12_must⟩ zw_26_14 zw_26_15 ⟨Nat.le_of_ble_eq_true rfl, Nat.le_of_ble_eq_true rfl⟩ ⟨rfl, rfl⟩ rfl hl.1 rfl (Nat.le_of_ble_eq_true rfl) dX12_codeItems_161 ⟨Nat.zero_le _, Nat.zero_le _⟩ hS (fun _ h => h) (fun H9 locs9 q9 ce9 hp9 hS9 _ _ g1 g2 g3 => ?_) (fun v H locs hp hS _ _ => ?_)
        · exact hth _ _ _ _ _ _ _ hS9 (⟨13, (a + 8), (by unfold xBody; rw [if_neg (by omega), if_neg (by omega), if_neg (by omega), if_pos (by omega)]), ⟨_, hp9.2, rfl, rfl, (chg_sx (by decide) (chg_sx (by decide) (chg_sf (by decide) (chg_sx (by decide) (chg_sf (by decide) (chg_sx (by decide) (chg_sx (by decide) (chg_sx (by decide) chg.rf))))))))⟩⟩) g1 g2 g3
        exact absurd hp.1 (by decide)
      · refine lv_iconst (v := zI 1) C.1 C.2.1 dX12_codeItems_152 (by decide) ?_
        refine lv_goto (tgt := 157) C.1 C.2.1 dX12_codeItems_153 (by decide) ?_
        refine lv_bipush (v := zI 13) C.1 C.2.1 dX12_codeItems_157 (by decide) ?_
        refine lv_iload C.1 C.2.1 dX12_codeItems_159 (lv_at hl 0 rfl) ?_
        refine z_callVX C (As := [zV (bI true), zN 13, zN (a + 8)]) (rest := []) (c_X12_must l Z hM true (zI 13) (zI ((a + 8 : Nat) : Int))) hM.1 rfl ⟨⟨zw_26_16, zw_1_5, zw_26_13⟩, zd_X12_must⟩ zw_26_14 zw_26_15 ⟨Nat.le_of_ble_eq_true rfl, Nat.le_of_ble_eq_true rfl⟩ ⟨rfl, rfl⟩ rfl hl.1 rfl (Nat.le_of_ble_eq_true rfl) dX12_codeItems_161 ⟨Nat.zero_le _, Nat.zero_le _⟩ hS (fun _ h => h) (fun H9 locs9 q9 ce9 hp9 hS9 _ _ g1 g2 g3 => ?_) (fun v H locs hp hS _ _ => ?_)
        · exact absurd hp9.1 (by decide)
        obtain ⟨-, rfl, hM⟩ := hp
        refine lv_aload_n C.1 C.2.1 dX12_codeItems_164 rfl (lv_at hl 3 rfl) ?_
        refine lv_ldc2 (v := zL 4) C.1 C.2.1 C.2.2.2.1 (C.2.2.2.2.1 _ zw_27_16) dX12_codeItems_165 ?_
        refine z_callVX C (As := [.long (zL 4)]) (rest := []) (c_X12_within l Z (n := cE F a) (q := a + 10) (b := 4) hM (rfl) (rfl) (by omega) (by omega) (by omega)) hM.1 rfl ⟨⟨zw_31_13, zw_1_5, zw_31_10⟩, zd_X12_within⟩ zw_31_11 zw_31_12 ⟨Nat.le_of_ble_eq_true rfl, Nat.le_of_ble_eq_true rfl⟩ ⟨rfl, rfl⟩ rfl hl.1 rfl (Nat.le_of_ble_eq_true rfl) dX12_codeItems_168 ⟨Nat.zero_le _, Nat.zero_le _⟩ hS (fun _ h => h) (fun H9 locs9 q9 ce9 hp9 hS9 _ _ g1 g2 g3 => ?_) (fun v H locs hp hS _ _ => ?_)
        · exact hth _ _ _ _ _ _ _ hS9 (⟨14, cE F a, (by unfold xBody; rw [if_neg (by omega), if_neg (by omega), if_neg (by omega), if_neg (by omega), if_pos (by omega)]), ⟨_, hp9.2, rfl, rfl, (chg_sx (by decide) (chg_sx (by decide) (chg_sf (by decide) (chg_sx (by decide) (chg_sf (by decide) (chg_sx (by decide) (chg_sx (by decide) (chg_sx (by decide) chg.rf))))))))⟩⟩) g1 g2 g3
        obtain ⟨ho168, rfl, hM⟩ := hp
        refine lv_istore (lv' := [(4, zN (a + 10)), (3, zV (ppN F tb (U2 F (mt (nf + i) + 4)))), (2, zN a), (0, .ref o), (1, zN i)]) C.1 C.2.1 dX12_codeItems_171 hl (by decide) rfl (fun ls hl => ?_)
        refine lv_aload_n C.1 C.2.1 dX12_codeItems_173 rfl (lv_at hl 3 rfl) ?_
        refine lv_iload C.1 C.2.1 dX12_codeItems_174 (lv_at hl 0 rfl) ?_
        refine z_readV C (As := [zN (a + 10)]) (rest := []) (c_X12_four l Z hM hB (a + 10) rfl (by omega)) hM.1 rfl ⟨⟨zw_28_2, zw_1_5, zw_27_23⟩, zd_X12_four⟩ zw_28_0 zw_28_1 ⟨Nat.le_of_ble_eq_true rfl, Nat.le_of_ble_eq_true rfl⟩ ⟨rfl, rfl⟩ rfl hl.1 rfl (Nat.le_of_ble_eq_true rfl) dX12_codeItems_176 ⟨Nat.zero_le _, Nat.zero_le _⟩ hS (fun locs hS => ?_)
        have := S4_rg hB.1 (a + 10)
        refine lv_istore (lv' := [(5, zV (S4 F (a + 10))), (4, zN (a + 10)), (3, zV (ppN F tb (U2 F (mt (nf + i) + 4)))), (2, zN a), (0, .ref o), (1, zN i)]) C.1 C.2.1 dX12_codeItems_179 hl (by decide) rfl (fun ls hl => ?_)
        refine lv_aload_n C.1 C.2.1 dX12_codeItems_181 rfl (lv_at hl 4 rfl) ?_
        refine lv_iload C.1 C.2.1 dX12_codeItems_182 (lv_at hl 0 rfl) ?_
        refine lv_iconst (v := zI 1) C.1 C.2.1 dX12_codeItems_184 (by decide) ?_
        refine y_icmp_lt (tgt := 200) C (a := S4 F (a + 10)) (b := 1) dX12_codeItems_185 (by decide) (by omega) (fun h185 => ?_) (fun h185 => ?_)
        · refine lv_iconst (v := zI 0) C.1 C.2.1 dX12_codeItems_200 (by decide) ?_
          refine lv_bipush (v := zI 13) C.1 C.2.1 dX12_codeItems_201 (by decide) ?_
          refine lv_iload C.1 C.2.1 dX12_codeItems_203 (lv_at hl 1 rfl) ?_
          refine z_callVX C (As := [zV (bI false), zN 13, zN (a + 10)]) (rest := []) (c_X12_must l Z hM false (zI 13) (zI ((a + 10 : Nat) : Int))) hM.1 rfl ⟨⟨zw_26_16, zw_1_5, zw_26_13⟩, zd_X12_must⟩ zw_26_14 zw_26_15 ⟨Nat.le_of_ble_eq_true rfl, Nat.le_of_ble_eq_true rfl⟩ ⟨rfl, rfl⟩ rfl hl.1 rfl (Nat.le_of_ble_eq_true rfl) dX12_codeItems_205 ⟨Nat.zero_le _, Nat.zero_le _⟩ hS (fun _ h => h) (fun H9 locs9 q9 ce9 hp9 hS9 _ _ g1 g2 g3 => ?_) (fun v H locs hp hS _ _ => ?_)
          · exact hth _ _ _ _ _ _ _ hS9 (⟨13, (a + 10), (by unfold xBody; rw [if_neg (by omega), if_neg (by omega), if_neg (by omega), if_neg (by omega), if_neg (by omega), if_pos (by omega)]), ⟨_, hp9.2, rfl, rfl, (chg_sx (by decide) (chg_sx (by decide) (chg_sx (by decide) (chg_sf (by decide) (chg_sx (by decide) (chg_sf (by decide) (chg_sx (by decide) (chg_sx (by decide) (chg_sx (by decide) chg.rf)))))))))⟩⟩) g1 g2 g3
          exact absurd hp.1 (by decide)
        · refine lv_iload C.1 C.2.1 dX12_codeItems_188 (lv_at hl 0 rfl) ?_
          refine lv_sipush (v := zI 1200) C.1 C.2.1 dX12_codeItems_190 (by decide) ?_
          refine y_icmp_gt (tgt := 200) C (a := S4 F (a + 10)) (b := 1200) dX12_codeItems_193 (by decide) (by omega) (fun h193 => ?_) (fun h193 => ?_)
          · refine lv_iconst (v := zI 0) C.1 C.2.1 dX12_codeItems_200 (by decide) ?_
            refine lv_bipush (v := zI 13) C.1 C.2.1 dX12_codeItems_201 (by decide) ?_
            refine lv_iload C.1 C.2.1 dX12_codeItems_203 (lv_at hl 1 rfl) ?_
            refine z_callVX C (As := [zV (bI false), zN 13, zN (a + 10)]) (rest := []) (c_X12_must l Z hM false (zI 13) (zI ((a + 10 : Nat) : Int))) hM.1 rfl ⟨⟨zw_26_16, zw_1_5, zw_26_13⟩, zd_X12_must⟩ zw_26_14 zw_26_15 ⟨Nat.le_of_ble_eq_true rfl, Nat.le_of_ble_eq_true rfl⟩ ⟨rfl, rfl⟩ rfl hl.1 rfl (Nat.le_of_ble_eq_true rfl) dX12_codeItems_205 ⟨Nat.zero_le _, Nat.zero_le _⟩ hS (fun _ h => h) (fun H9 locs9 q9 ce9 hp9 hS9 _ _ g1 g2 g3 => ?_) (fun v H locs hp hS _ _ => ?_)
            · exact hth _ _ _ _ _ _ _ hS9 (⟨13, (a + 10), (by unfold xBody; rw [if_neg (by omega), if_neg (by omega), if_neg (by omega), if_neg (by omega), if_neg (by omega), if_pos (by omega)]), ⟨_, hp9.2, rfl, rfl, (chg_sx (by decide) (chg_sx (by decide) (chg_sx (by decide) (chg_sf (by decide) (chg_sx (by decide) (chg_sf (by decide) (chg_sx (by decide) (chg_sx (by decide) (chg_sx (by decide) chg.rf)))))))))⟩⟩) g1 g2 g3
            exact absurd hp.1 (by decide)
          · refine lv_iconst (v := zI 1) C.1 C.2.1 dX12_codeItems_196 (by decide) ?_
            refine lv_goto (tgt := 201) C.1 C.2.1 dX12_codeItems_197 (by decide) ?_
            refine lv_bipush (v := zI 13) C.1 C.2.1 dX12_codeItems_201 (by decide) ?_
            refine lv_iload C.1 C.2.1 dX12_codeItems_203 (lv_at hl 1 rfl) ?_
            refine z_callVX C (As := [zV (bI true), zN 13, zN (a + 10)]) (rest := []) (c_X12_must l Z hM true (zI 13) (zI ((a + 10 : Nat) : Int))) hM.1 rfl ⟨⟨zw_26_16, zw_1_5, zw_26_13⟩, zd_X12_must⟩ zw_26_14 zw_26_15 ⟨Nat.le_of_ble_eq_true rfl, Nat.le_of_ble_eq_true rfl⟩ ⟨rfl, rfl⟩ rfl hl.1 rfl (Nat.le_of_ble_eq_true rfl) dX12_codeItems_205 ⟨Nat.zero_le _, Nat.zero_le _⟩ hS (fun _ h => h) (fun H9 locs9 q9 ce9 hp9 hS9 _ _ g1 g2 g3 => ?_) (fun v H locs hp hS _ _ => ?_)
            · exact absurd hp9.1 (by decide)
            obtain ⟨-, rfl, hM⟩ := hp
            have hl : lv_has ls 9 [(5, zV ((cS F a : Nat) : Int)), (4, zN (a + 10)), (3, zV (ppN F tb (U2 F (mt (nf + i) + 4)))), (2, zN a), (0, .ref o), (1, zN i)] := by rw [show (((cS F a : Nat) : Int)) = S4 F (a + 10) from (S4_sm hB.1 (by omega)).symm]; exact hl
            refine lv_aload_n C.1 C.2.1 dX12_codeItems_208 rfl (lv_at hl 4 rfl) ?_
            refine m_get C hM 27 (v := .ref (ad 27)) (by decide) zw_5_9 rfl rfl dX12_codeItems_209 ?_
            refine lv_iload_n C.1 C.2.1 dX12_codeItems_212 rfl (lv_at hl 5 rfl) ?_
            refine lv_aload_n C.1 C.2.1 dX12_codeItems_213 rfl (lv_at hl 4 rfl) ?_
            refine lv_iload C.1 C.2.1 dX12_codeItems_214 (lv_at hl 0 rfl) ?_
            refine y_i2l C (a := ((cS F a : Nat) : Int)) (by omega) dX12_codeItems_216 ?_
            refine z_callVX C (As := [.long (zL ((cS F a : Nat) : Int))]) (rest := [zN i, .ref (ad 27)]) (c_X12_within l Z (n := cE F a) (q := a + 14) (b := cS F a) hM (rfl) (rfl) (by omega) (by omega) (by omega)) hM.1 rfl ⟨⟨zw_31_13, zw_1_5, zw_31_10⟩, zd_X12_within⟩ zw_31_11 zw_31_12 ⟨Nat.le_of_ble_eq_true rfl, Nat.le_of_ble_eq_true rfl⟩ ⟨rfl, rfl⟩ rfl hl.1 rfl (Nat.le_of_ble_eq_true rfl) dX12_codeItems_217 ⟨Nat.zero_le _, Nat.zero_le _⟩ hS (fun _ h => h) (fun H9 locs9 q9 ce9 hp9 hS9 _ _ g1 g2 g3 => ?_) (fun v H locs hp hS _ _ => ?_)
            · exact hth _ _ _ _ _ _ _ hS9 (⟨14, cE F a, (by unfold xBody; rw [if_neg (by omega), if_neg (by omega), if_neg (by omega), if_neg (by omega), if_neg (by omega), if_neg (by omega), if_pos (by omega)]), ⟨_, hp9.2, rfl, rfl, (chg_sx (by decide) (chg_sx (by decide) (chg_sx (by decide) (chg_sf (by decide) (chg_sx (by decide) (chg_sf (by decide) (chg_sx (by decide) (chg_sx (by decide) (chg_sx (by decide) chg.rf)))))))))⟩⟩) g1 g2 g3
            obtain ⟨ho217, rfl, hM⟩ := hp
            refine m_ast C hM 27 (by decide) i (t := ((i : Nat) : Int)) rfl (by show _ < 24; omega) hS dX12_codeItems_220 (fun H locs hM hS => ?_)
            refine lv_aload_n C.1 C.2.1 dX12_codeItems_221 rfl (lv_at hl 4 rfl) ?_
            refine m_get C hM 28 (v := .ref (ad 28)) (by decide) zw_5_10 rfl rfl dX12_codeItems_222 ?_
            refine lv_iload_n C.1 C.2.1 dX12_codeItems_225 rfl (lv_at hl 5 rfl) ?_
            refine lv_iload C.1 C.2.1 dX12_codeItems_226 (lv_at hl 0 rfl) ?_
            refine m_ast C hM 28 (by decide) i (t := ((i : Nat) : Int)) rfl (by show _ < 24; omega) hS dX12_codeItems_228 (fun H locs hM hS => ?_)
            refine lv_aload_n C.1 C.2.1 dX12_codeItems_229 rfl (lv_at hl 4 rfl) ?_
            refine lv_ldc2 (v := zL 2) C.1 C.2.1 C.2.2.2.1 (C.2.2.2.2.1 _ zw_26_8) dX12_codeItems_230 ?_
            refine z_callVX C (As := [.long (zL 2)]) (rest := []) (c_X12_within l Z (n := cE F a) (q := a + 14 + (cS F a)) (b := 2) hM (rfl) (rfl) (by omega) (by omega) (by omega)) hM.1 rfl ⟨⟨zw_31_13, zw_1_5, zw_31_10⟩, zd_X12_within⟩ zw_31_11 zw_31_12 ⟨Nat.le_of_ble_eq_true rfl, Nat.le_of_ble_eq_true rfl⟩ ⟨rfl, rfl⟩ rfl hl.1 rfl (Nat.le_of_ble_eq_true rfl) dX12_codeItems_233 ⟨Nat.zero_le _, Nat.zero_le _⟩ hS (fun _ h => h) (fun H9 locs9 q9 ce9 hp9 hS9 _ _ g1 g2 g3 => ?_) (fun v H locs hp hS _ _ => ?_)
            · exact hth _ _ _ _ _ _ _ hS9 (⟨14, cE F a, (by unfold xBody; rw [if_neg (by omega), if_neg (by omega), if_neg (by omega), if_neg (by omega), if_neg (by omega), if_neg (by omega), if_neg (by omega), if_pos (by omega)]), ⟨_, hp9.2, rfl, rfl, (chg_sx (by decide) (chg_sx (by decide) (chg_sf (by decide) (chg_sf (by decide) (chg_sx (by decide) (chg_sx (by decide) (chg_sf (by decide) (chg_sx (by decide) (chg_sf (by decide) (chg_sx (by decide) (chg_sx (by decide) (chg_sx (by decide) chg.rf))))))))))))⟩⟩) g1 g2 g3
            obtain ⟨ho233, rfl, hM⟩ := hp
            refine lv_istore (lv' := [(4, zN (a + 14 + (cS F a))), (5, zN (cS F a)), (3, zV (ppN F tb (U2 F (mt (nf + i) + 4)))), (2, zN a), (0, .ref o), (1, zN i)]) C.1 C.2.1 dX12_codeItems_236 hl (by decide) rfl (fun ls hl => ?_)
            refine lv_aload_n C.1 C.2.1 dX12_codeItems_238 rfl (lv_at hl 4 rfl) ?_
            refine m_get C hM 30 (v := .ref (ad 30)) (by decide) zw_5_12 rfl rfl dX12_codeItems_239 ?_
            refine lv_iload_n C.1 C.2.1 dX12_codeItems_242 rfl (lv_at hl 5 rfl) ?_
            refine lv_aload_n C.1 C.2.1 dX12_codeItems_243 rfl (lv_at hl 4 rfl) ?_
            refine lv_iload C.1 C.2.1 dX12_codeItems_244 (lv_at hl 0 rfl) ?_
            refine z_readV C (As := [zN (a + 14 + (cS F a))]) (rest := [zN i, .ref (ad 30)]) (c_X12_two l Z hM hB (a + 14 + (cS F a)) rfl (by omega)) hM.1 rfl ⟨⟨zw_27_11, zw_1_5, zw_27_8⟩, zd_X12_two⟩ zw_27_9 zw_27_10 ⟨Nat.le_of_ble_eq_true rfl, Nat.le_of_ble_eq_true rfl⟩ ⟨rfl, rfl⟩ rfl hl.1 rfl (Nat.le_of_ble_eq_true rfl) dX12_codeItems_246 ⟨Nat.zero_le _, Nat.zero_le _⟩ hS (fun locs hS => ?_)
            have := U2_lt hB.1 (a + 14 + (cS F a))
            refine m_ast C hM 30 (by decide) i (t := ((i : Nat) : Int)) rfl (by show _ < 24; omega) hS dX12_codeItems_249 (fun H locs hM hS => ?_)
            refine lv_aload_n C.1 C.2.1 dX12_codeItems_250 rfl (lv_at hl 4 rfl) ?_
            refine lv_aload_n C.1 C.2.1 dX12_codeItems_251 rfl (lv_at hl 4 rfl) ?_
            refine m_get C hM 30 (v := .ref (ad 30)) (by decide) zw_5_12 rfl rfl dX12_codeItems_252 ?_
            refine lv_iload_n C.1 C.2.1 dX12_codeItems_255 rfl (lv_at hl 5 rfl) ?_
            refine m_ald C hM 30 (by decide) i (t := ((i : Nat) : Int)) rfl (by show _ < 24; omega) dX12_codeItems_256 ?_
            refine z_re (y := zI ((cN F a : Nat) : Int)) upd_2 ?_
            refine lv_bipush (v := zI 16) C.1 C.2.1 dX12_codeItems_257 (by decide) ?_
            refine y_icmp_gt (tgt := 266) C (a := ((cN F a : Nat) : Int)) (b := 16) dX12_codeItems_259 (by decide) (by omega) (fun h259 => ?_) (fun h259 => ?_)
            · refine lv_iconst (v := zI 0) C.1 C.2.1 dX12_codeItems_266 (by decide) ?_
              refine lv_bipush (v := zI 13) C.1 C.2.1 dX12_codeItems_267 (by decide) ?_
              refine lv_iload C.1 C.2.1 dX12_codeItems_269 (lv_at hl 0 rfl) ?_
              refine z_callVX C (As := [zV (bI false), zN 13, zN (a + 14 + (cS F a))]) (rest := []) (c_X12_must l Z hM false (zI 13) (zI ((a + 14 + (cS F a) : Nat) : Int))) hM.1 rfl ⟨⟨zw_26_16, zw_1_5, zw_26_13⟩, zd_X12_must⟩ zw_26_14 zw_26_15 ⟨Nat.le_of_ble_eq_true rfl, Nat.le_of_ble_eq_true rfl⟩ ⟨rfl, rfl⟩ rfl hl.1 rfl (Nat.le_of_ble_eq_true rfl) dX12_codeItems_271 ⟨Nat.zero_le _, Nat.zero_le _⟩ hS (fun _ h => h) (fun H9 locs9 q9 ce9 hp9 hS9 _ _ g1 g2 g3 => ?_) (fun v H locs hp hS _ _ => ?_)
              · exact hth _ _ _ _ _ _ _ hS9 (⟨13, (a + 14 + cS F a), (by unfold xBody; rw [if_neg (by omega), if_neg (by omega), if_neg (by omega), if_neg (by omega), if_neg (by omega), if_neg (by omega), if_neg (by omega), if_neg (by omega), if_pos (by omega)]), ⟨_, hp9.2, rfl, rfl, (chg_sx (by decide) (chg_sx (by decide) (chg_sf (by decide) (chg_sx (by decide) (chg_sf (by decide) (chg_sf (by decide) (chg_sx (by decide) (chg_sx (by decide) (chg_sf (by decide) (chg_sx (by decide) (chg_sf (by decide) (chg_sx (by decide) (chg_sx (by decide) (chg_sx (by decide) chg.rf))))))))))))))⟩⟩) g1 g2 g3
              exact absurd hp.1 (by decide)
            · refine lv_iconst (v := zI 1) C.1 C.2.1 dX12_codeItems_262 (by decide) ?_
              refine lv_goto (tgt := 267) C.1 C.2.1 dX12_codeItems_263 (by decide) ?_
              refine lv_bipush (v := zI 13) C.1 C.2.1 dX12_codeItems_267 (by decide) ?_
              refine lv_iload C.1 C.2.1 dX12_codeItems_269 (lv_at hl 0 rfl) ?_
              refine z_callVX C (As := [zV (bI true), zN 13, zN (a + 14 + (cS F a))]) (rest := []) (c_X12_must l Z hM true (zI 13) (zI ((a + 14 + (cS F a) : Nat) : Int))) hM.1 rfl ⟨⟨zw_26_16, zw_1_5, zw_26_13⟩, zd_X12_must⟩ zw_26_14 zw_26_15 ⟨Nat.le_of_ble_eq_true rfl, Nat.le_of_ble_eq_true rfl⟩ ⟨rfl, rfl⟩ rfl hl.1 rfl (Nat.le_of_ble_eq_true rfl) dX12_codeItems_271 ⟨Nat.zero_le _, Nat.zero_le _⟩ hS (fun _ h => h) (fun H9 locs9 q9 ce9 hp9 hS9 _ _ g1 g2 g3 => ?_) (fun v H locs hp hS _ _ => ?_)
              · exact absurd hp9.1 (by decide)
              obtain ⟨-, rfl, hM⟩ := hp
              refine lv_aload_n C.1 C.2.1 dX12_codeItems_274 rfl (lv_at hl 4 rfl) ?_
              refine m_get C hM 29 (v := .ref (ad 29)) (by decide) zw_5_11 rfl rfl dX12_codeItems_275 ?_
              refine lv_iload_n C.1 C.2.1 dX12_codeItems_278 rfl (lv_at hl 5 rfl) ?_
              refine lv_aload_n C.1 C.2.1 dX12_codeItems_279 rfl (lv_at hl 4 rfl) ?_
              refine m_get C hM 9 (v := .int ((sf (sx (sf (sf (sx (sx (sf (sx (sf (sx (sx (sx σ 9 (zI ((a + 6 : Nat) : Int))) 31 (zI ((cE F a : Nat) : Int))) 9 (zI ((a + 8 : Nat) : Int))) 25 (upd ((sx (sx (sx σ 9 (zI ((a + 6 : Nat) : Int))) 31 (zI ((cE F a : Nat) : Int))) 9 (zI ((a + 8 : Nat) : Int))).2.1 25) i (zI ((U2 F (a + 6) : Nat) : Int)))) 9 (zI ((a + 10 : Nat) : Int))) 26 (upd ((sx (sf (sx (sx (sx σ 9 (zI ((a + 6 : Nat) : Int))) 31 (zI ((cE F a : Nat) : Int))) 9 (zI ((a + 8 : Nat) : Int))) 25 (upd ((sx (sx (sx σ 9 (zI ((a + 6 : Nat) : Int))) 31 (zI ((cE F a : Nat) : Int))) 9 (zI ((a + 8 : Nat) : Int))).2.1 25) i (zI ((U2 F (a + 6) : Nat) : Int)))) 9 (zI ((a + 10 : Nat) : Int))).2.1 26) i (zI ((U2 F (a + 8) : Nat) : Int)))) 9 (zI ((a + 14 : Nat) : Int))) 9 (zI ((a + 14 + (cS F a) : Nat) : Int))) 27 (upd ((sx (sx (sf (sx (sf (sx (sx (sx σ 9 (zI ((a + 6 : Nat) : Int))) 31 (zI ((cE F a : Nat) : Int))) 9 (zI ((a + 8 : Nat) : Int))) 25 (upd ((sx (sx (sx σ 9 (zI ((a + 6 : Nat) : Int))) 31 (zI ((cE F a : Nat) : Int))) 9 (zI ((a + 8 : Nat) : Int))).2.1 25) i (zI ((U2 F (a + 6) : Nat) : Int)))) 9 (zI ((a + 10 : Nat) : Int))) 26 (upd ((sx (sf (sx (sx (sx σ 9 (zI ((a + 6 : Nat) : Int))) 31 (zI ((cE F a : Nat) : Int))) 9 (zI ((a + 8 : Nat) : Int))) 25 (upd ((sx (sx (sx σ 9 (zI ((a + 6 : Nat) : Int))) 31 (zI ((cE F a : Nat) : Int))) 9 (zI ((a + 8 : Nat) : Int))).2.1 25) i (zI ((U2 F (a + 6) : Nat) : Int)))) 9 (zI ((a + 10 : Nat) : Int))).2.1 26) i (zI ((U2 F (a + 8) : Nat) : Int)))) 9 (zI ((a + 14 : Nat) : Int))) 9 (zI ((a + 14 + (cS F a) : Nat) : Int))).2.1 27) i (zI ((a + 14 : Nat) : Int)))) 28 (upd ((sf (sx (sx (sf (sx (sf (sx (sx (sx σ 9 (zI ((a + 6 : Nat) : Int))) 31 (zI ((cE F a : Nat) : Int))) 9 (zI ((a + 8 : Nat) : Int))) 25 (upd ((sx (sx (sx σ 9 (zI ((a + 6 : Nat) : Int))) 31 (zI ((cE F a : Nat) : Int))) 9 (zI ((a + 8 : Nat) : Int))).2.1 25) i (zI ((U2 F (a + 6) : Nat) : Int)))) 9 (zI ((a + 10 : Nat) : Int))) 26 (upd ((sx (sf (sx (sx (sx σ 9 (zI ((a + 6 : Nat) : Int))) 31 (zI ((cE F a : Nat) : Int))) 9 (zI ((a + 8 : Nat) : Int))) 25 (upd ((sx (sx (sx σ 9 (zI ((a + 6 : Nat) : Int))) 31 (zI ((cE F a : Nat) : Int))) 9 (zI ((a + 8 : Nat) : Int))).2.1 25) i (zI ((U2 F (a + 6) : Nat) : Int)))) 9 (zI ((a + 10 : Nat) : Int))).2.1 26) i (zI ((U2 F (a + 8) : Nat) : Int)))) 9 (zI ((a + 14 : Nat) : Int))) 9 (zI ((a + 14 + (cS F a) : Nat) : Int))) 27 (upd ((sx (sx (sf (sx (sf (sx (sx (sx σ 9 (zI ((a + 6 : Nat) : Int))) 31 (zI ((cE F a : Nat) : Int))) 9 (zI ((a + 8 : Nat) : Int))) 25 (upd ((sx (sx (sx σ 9 (zI ((a + 6 : Nat) : Int))) 31 (zI ((cE F a : Nat) : Int))) 9 (zI ((a + 8 : Nat) : Int))).2.1 25) i (zI ((U2 F (a + 6) : Nat) : Int)))) 9 (zI ((a + 10 : Nat) : Int))) 26 (upd ((sx (sf (sx (sx (sx σ 9 (zI ((a + 6 : Nat) : Int))) 31 (zI ((cE F a : Nat) : Int))) 9 (zI ((a + 8 : Nat) : Int))) 25 (upd ((sx (sx (sx σ 9 (zI ((a + 6 : Nat) : Int))) 31 (zI ((cE F a : Nat) : Int))) 9 (zI ((a + 8 : Nat) : Int))).2.1 25) i (zI ((U2 F (a + 6) : Nat) : Int)))) 9 (zI ((a + 10 : Nat) : Int))).2.1 26) i (zI ((U2 F (a + 8) : Nat) : Int)))) 9 (zI ((a + 14 : Nat) : Int))) 9 (zI ((a + 14 + (cS F a) : Nat) : Int))).2.1 27) i (zI ((a + 14 : Nat) : Int)))).2.1 28) i (zI ((cS F a : Nat) : Int)))) 9 (zI ((a + 14 + (cS F a) + 2 : Nat) : Int))) 30 (upd ((sx (sf (sf (sx (sx (sf (sx (sf (sx (sx (sx σ 9 (zI ((a + 6 : Nat) : Int))) 31 (zI ((cE F a : Nat) : Int))) 9 (zI ((a + 8 : Nat) : Int))) 25 (upd ((sx (sx (sx σ 9 (zI ((a + 6 : Nat) : Int))) 31 (zI ((cE F a : Nat) : Int))) 9 (zI ((a + 8 : Nat) : Int))).2.1 25) i (zI ((U2 F (a + 6) : Nat) : Int)))) 9 (zI ((a + 10 : Nat) : Int))) 26 (upd ((sx (sf (sx (sx (sx σ 9 (zI ((a + 6 : Nat) : Int))) 31 (zI ((cE F a : Nat) : Int))) 9 (zI ((a + 8 : Nat) : Int))) 25 (upd ((sx (sx (sx σ 9 (zI ((a + 6 : Nat) : Int))) 31 (zI ((cE F a : Nat) : Int))) 9 (zI ((a + 8 : Nat) : Int))).2.1 25) i (zI ((U2 F (a + 6) : Nat) : Int)))) 9 (zI ((a + 10 : Nat) : Int))).2.1 26) i (zI ((U2 F (a + 8) : Nat) : Int)))) 9 (zI ((a + 14 : Nat) : Int))) 9 (zI ((a + 14 + (cS F a) : Nat) : Int))) 27 (upd ((sx (sx (sf (sx (sf (sx (sx (sx σ 9 (zI ((a + 6 : Nat) : Int))) 31 (zI ((cE F a : Nat) : Int))) 9 (zI ((a + 8 : Nat) : Int))) 25 (upd ((sx (sx (sx σ 9 (zI ((a + 6 : Nat) : Int))) 31 (zI ((cE F a : Nat) : Int))) 9 (zI ((a + 8 : Nat) : Int))).2.1 25) i (zI ((U2 F (a + 6) : Nat) : Int)))) 9 (zI ((a + 10 : Nat) : Int))) 26 (upd ((sx (sf (sx (sx (sx σ 9 (zI ((a + 6 : Nat) : Int))) 31 (zI ((cE F a : Nat) : Int))) 9 (zI ((a + 8 : Nat) : Int))) 25 (upd ((sx (sx (sx σ 9 (zI ((a + 6 : Nat) : Int))) 31 (zI ((cE F a : Nat) : Int))) 9 (zI ((a + 8 : Nat) : Int))).2.1 25) i (zI ((U2 F (a + 6) : Nat) : Int)))) 9 (zI ((a + 10 : Nat) : Int))).2.1 26) i (zI ((U2 F (a + 8) : Nat) : Int)))) 9 (zI ((a + 14 : Nat) : Int))) 9 (zI ((a + 14 + (cS F a) : Nat) : Int))).2.1 27) i (zI ((a + 14 : Nat) : Int)))) 28 (upd ((sf (sx (sx (sf (sx (sf (sx (sx (sx σ 9 (zI ((a + 6 : Nat) : Int))) 31 (zI ((cE F a : Nat) : Int))) 9 (zI ((a + 8 : Nat) : Int))) 25 (upd ((sx (sx (sx σ 9 (zI ((a + 6 : Nat) : Int))) 31 (zI ((cE F a : Nat) : Int))) 9 (zI ((a + 8 : Nat) : Int))).2.1 25) i (zI ((U2 F (a + 6) : Nat) : Int)))) 9 (zI ((a + 10 : Nat) : Int))) 26 (upd ((sx (sf (sx (sx (sx σ 9 (zI ((a + 6 : Nat) : Int))) 31 (zI ((cE F a : Nat) : Int))) 9 (zI ((a + 8 : Nat) : Int))) 25 (upd ((sx (sx (sx σ 9 (zI ((a + 6 : Nat) : Int))) 31 (zI ((cE F a : Nat) : Int))) 9 (zI ((a + 8 : Nat) : Int))).2.1 25) i (zI ((U2 F (a + 6) : Nat) : Int)))) 9 (zI ((a + 10 : Nat) : Int))).2.1 26) i (zI ((U2 F (a + 8) : Nat) : Int)))) 9 (zI ((a + 14 : Nat) : Int))) 9 (zI ((a + 14 + (cS F a) : Nat) : Int))) 27 (upd ((sx (sx (sf (sx (sf (sx (sx (sx σ 9 (zI ((a + 6 : Nat) : Int))) 31 (zI ((cE F a : Nat) : Int))) 9 (zI ((a + 8 : Nat) : Int))) 25 (upd ((sx (sx (sx σ 9 (zI ((a + 6 : Nat) : Int))) 31 (zI ((cE F a : Nat) : Int))) 9 (zI ((a + 8 : Nat) : Int))).2.1 25) i (zI ((U2 F (a + 6) : Nat) : Int)))) 9 (zI ((a + 10 : Nat) : Int))) 26 (upd ((sx (sf (sx (sx (sx σ 9 (zI ((a + 6 : Nat) : Int))) 31 (zI ((cE F a : Nat) : Int))) 9 (zI ((a + 8 : Nat) : Int))) 25 (upd ((sx (sx (sx σ 9 (zI ((a + 6 : Nat) : Int))) 31 (zI ((cE F a : Nat) : Int))) 9 (zI ((a + 8 : Nat) : Int))).2.1 25) i (zI ((U2 F (a + 6) : Nat) : Int)))) 9 (zI ((a + 10 : Nat) : Int))).2.1 26) i (zI ((U2 F (a + 8) : Nat) : Int)))) 9 (zI ((a + 14 : Nat) : Int))) 9 (zI ((a + 14 + (cS F a) : Nat) : Int))).2.1 27) i (zI ((a + 14 : Nat) : Int)))).2.1 28) i (zI ((cS F a : Nat) : Int)))) 9 (zI ((a + 14 + (cS F a) + 2 : Nat) : Int))).2.1 30) i (zI ((U2 F (a + 14 + (cS F a)) : Nat) : Int)))).1 9)) (by decide) zw_26_7 rfl rfl dX12_codeItems_280 ?_
              refine z_re (y := zI ((a + 14 + (cS F a) + 2 : Nat) : Int)) rfl ?_
              refine m_ast C hM 29 (by decide) i (t := ((i : Nat) : Int)) rfl (by show _ < 24; omega) hS dX12_codeItems_283 (fun H locs hM hS => ?_)
              refine lv_iconst (v := zI 0) C.1 C.2.1 dX12_codeItems_284 (by decide) ?_
              refine lv_istore (lv' := [(6, zN 0), (4, zN (a + 14 + (cS F a))), (5, zN (cS F a)), (3, zV (ppN F tb (U2 F (mt (nf + i) + 4)))), (2, zN a), (0, .ref o), (1, zN i)]) C.1 C.2.1 dX12_codeItems_285 hl (by decide) rfl (fun ls hl => ?_)
              have loopC : ∀ (fu : Nat) (j : Nat) (σ1 : mS) (H : Heap) (ls : Array Slot) (locs : List Loc), va_S (mA o ad) s.heap H locs → isM Z H o ad σ1 → (j + fu = cN F a + 1 ∧ j ≤ cN F a) → (σ1.1 9 = zI ((cH F a + 8 * j : Nat) : Int)) → (chg [4, 5, 9, 31] [25, 26, 27, 28, 29, 30] σ σ1) → (bdy F i a σ σ1) → (cH F a + 8 * j ≤ cE F a) → lv_has ls 9 [(6, zN j), (0, .ref o), (1, zN i)] → W p l e (rmk 9) s m args below meth c H locs 0 0 Q (F0 m 287 ls []) := by
                intro fu
                induction fu with
                | zero =>
                  intro j σ1 H ls locs hS hM hj h9 hc hbd hin hl
                  omega
                | succ fu ih_loopC =>
                  intro j σ1 H ls locs hS hM hj h9 hc hbd hin hl
                  have hB := hB0.chg hc (by decide) (by decide)
                  refine lv_iload C.1 C.2.1 dX12_codeItems_287 (lv_at hl 0 rfl) ?_
                  refine lv_aload_n C.1 C.2.1 dX12_codeItems_289 rfl (lv_at hl 1 rfl) ?_
                  refine m_get C hM 30 (v := .ref (ad 30)) (by decide) zw_5_12 rfl rfl dX12_codeItems_290 ?_
                  refine lv_iload_n C.1 C.2.1 dX12_codeItems_293 rfl (lv_at hl 2 rfl) ?_
                  refine m_ald C hM 30 (by decide) i (t := ((i : Nat) : Int)) rfl (by show _ < 24; omega) dX12_codeItems_294 ?_
                  refine z_re (y := zI ((cN F a : Nat) : Int)) ((congrFun hbd.2.2.2.2.2.1 i).trans upd_2) ?_
                  refine y_icmp_ge (tgt := 312) C (a := ((j : Nat) : Int)) (b := ((cN F a : Nat) : Int)) dX12_codeItems_295 (by decide) (by omega) (fun h295 => ?_) (fun h295 => ?_)
                  · obtain rfl : j = cN F a := by omega
                    refine lv_aload_n C.1 C.2.1 dX12_codeItems_312 rfl (lv_at hl 1 rfl) ?_
                    refine lv_aload_n C.1 C.2.1 dX12_codeItems_313 rfl (lv_at hl 1 rfl) ?_
                    refine lv_ldc2 (v := zL 2) C.1 C.2.1 C.2.2.2.1 (C.2.2.2.2.1 _ zw_26_8) dX12_codeItems_314 ?_
                    refine z_callVX C (As := [.long (zL 2)]) (rest := [.ref o]) (c_X12_within l Z (n := cE F a) (q := cH F a + 8 * cN F a) (b := 2) hM (h9) (hbd.1) (by omega) (by omega) (by omega)) hM.1 rfl ⟨⟨zw_31_13, zw_1_5, zw_31_10⟩, zd_X12_within⟩ zw_31_11 zw_31_12 ⟨Nat.le_of_ble_eq_true rfl, Nat.le_of_ble_eq_true rfl⟩ ⟨rfl, rfl⟩ rfl hl.1 rfl (Nat.le_of_ble_eq_true rfl) dX12_codeItems_317 ⟨Nat.zero_le _, Nat.zero_le _⟩ hS (fun _ h => h) (fun H9 locs9 q9 ce9 hp9 hS9 _ _ g1 g2 g3 => ?_) (fun v H locs hp hS _ _ => ?_)
                    · exact hth _ _ _ _ _ _ _ hS9 (⟨14, cE F a, (by unfold xBody; rw [if_neg (by omega), if_neg (by omega), if_neg (by omega), if_neg (by omega), if_neg (by omega), if_neg (by omega), if_neg (by omega), if_neg (by omega), if_neg (by omega), if_pos (by omega)]), ⟨_, hp9.2, rfl, rfl, (chg_sx (by decide) (chg_sx (by decide) (hc.mono (by decide) (by decide))))⟩⟩) g1 g2 g3
                    obtain ⟨ho317, rfl, hM⟩ := hp
                    refine z_readV C (As := [zN (cH F a + 8 * cN F a)]) (rest := []) (c_X12_two l Z hM hB (cH F a + 8 * cN F a) rfl (by omega)) hM.1 rfl ⟨⟨zw_27_11, zw_1_5, zw_27_8⟩, zd_X12_two⟩ zw_27_9 zw_27_10 ⟨Nat.le_of_ble_eq_true rfl, Nat.le_of_ble_eq_true rfl⟩ ⟨rfl, rfl⟩ rfl hl.1 rfl (Nat.le_of_ble_eq_true rfl) dX12_codeItems_320 ⟨Nat.zero_le _, Nat.zero_le _⟩ hS (fun locs hS => ?_)
                    have := U2_lt hB.1 (cH F a + 8 * cN F a)
                    refine lv_istore (lv' := [(6, zN (U2 F (cH F a + 8 * cN F a))), (0, .ref o), (1, zN i)]) C.1 C.2.1 dX12_codeItems_323 hl (by decide) rfl (fun ls hl => ?_)
                    refine lv_iconst (v := zI 0) C.1 C.2.1 dX12_codeItems_325 (by decide) ?_
                    refine lv_istore (lv' := [(7, zN 0), (6, zN (U2 F (cH F a + 8 * cN F a))), (0, .ref o), (1, zN i)]) C.1 C.2.1 dX12_codeItems_326 hl (by decide) rfl (fun ls hl => ?_)
                    have loopD : ∀ (fv : Nat) (k q : Nat) (σ2 : mS) (H : Heap) (ls : Array Slot) (locs : List Loc), va_S (mA o ad) s.heap H locs → isM Z H o ad σ2 → (k + fv = U2 F (cH F a + 8 * cN F a) + 1 ∧ k ≤ U2 F (cH F a + 8 * cN F a)) → (σ2.1 9 = zI (q : Int)) → (chg [4, 5, 9, 31] [25, 26, 27, 28, 29, 30] σ σ2) → (bdy F i a σ σ2) → (q ≤ cE F a) → (xBA F (cE F a) (U2 F (cH F a + 8 * cN F a) - k) q = xBody F a (ppN F tb (U2 F (mt (nf + i) + 4)))) → lv_has ls 9 [(7, zN k), (6, zN (U2 F (cH F a + 8 * cN F a))), (0, .ref o), (1, zN i)] → W p l e (rmk 9) s m args below meth c H locs 0 0 Q (F0 m 328 ls []) := by
                      intro fv
                      induction fv with
                      | zero =>
                        intro k q σ2 H ls locs hS hM hk h9 hc hbd hin hx hl
                        omega
                      | succ fv ih_loopD =>
                        intro k q σ2 H ls locs hS hM hk h9 hc hbd hin hx hl
                        have hB := hB0.chg hc (by decide) (by decide)
                        have hu4 := U4_lt hB.1 (q + 2)
                        refine lv_iload C.1 C.2.1 dX12_codeItems_328 (lv_at hl 0 rfl) ?_
                        refine lv_iload C.1 C.2.1 dX12_codeItems_330 (lv_at hl 1 rfl) ?_
                        refine y_icmp_ge (tgt := 374) C (a := ((k : Nat) : Int)) (b := ((U2 F (cH F a + 8 * cN F a) : Nat) : Int)) dX12_codeItems_332 (by decide) (by omega) (fun h332 => ?_) (fun h332 => ?_)
                        · refine lv_aload_n C.1 C.2.1 dX12_codeItems_374 rfl (lv_at hl 2 rfl) ?_
                          refine lv_aload_n C.1 C.2.1 dX12_codeItems_375 rfl (lv_at hl 2 rfl) ?_
                          refine m_get C hM 9 (v := .int (σ2.1 9)) (by decide) zw_26_7 rfl rfl dX12_codeItems_376 ?_
                          refine z_re (y := zI ((q : Nat) : Int)) h9 ?_
                          refine lv_aload_n C.1 C.2.1 dX12_codeItems_379 rfl (lv_at hl 2 rfl) ?_
                          refine m_get C hM 31 (v := .int (σ2.1 31)) (by decide) zw_31_9 rfl rfl dX12_codeItems_380 ?_
                          refine z_re (y := zI ((cE F a : Nat) : Int)) hbd.1 ?_
                          refine y_icmp_ne (tgt := 390) C (a := ((q : Nat) : Int)) (b := ((cE F a : Nat) : Int)) dX12_codeItems_383 (by decide) (by omega) (fun h383 => ?_) (fun h383 => ?_)
                          · refine lv_iconst (v := zI 0) C.1 C.2.1 dX12_codeItems_390 (by decide) ?_
                            refine lv_bipush (v := zI 14) C.1 C.2.1 dX12_codeItems_391 (by decide) ?_
                            refine lv_aload_n C.1 C.2.1 dX12_codeItems_393 rfl (lv_at hl 2 rfl) ?_
                            refine m_get C hM 9 (v := .int (σ2.1 9)) (by decide) zw_26_7 rfl rfl dX12_codeItems_394 ?_
                            refine z_re (y := zI ((q : Nat) : Int)) h9 ?_
                            refine z_callVX C (As := [zV (bI false), zN 14, zN q]) (rest := []) (c_X12_must l Z hM false (zI 14) (zI ((q : Nat) : Int))) hM.1 rfl ⟨⟨zw_26_16, zw_1_5, zw_26_13⟩, zd_X12_must⟩ zw_26_14 zw_26_15 ⟨Nat.le_of_ble_eq_true rfl, Nat.le_of_ble_eq_true rfl⟩ ⟨rfl, rfl⟩ rfl hl.1 rfl (Nat.le_of_ble_eq_true rfl) dX12_codeItems_397 ⟨Nat.zero_le _, Nat.zero_le _⟩ hS (fun _ h => h) (fun H9 locs9 q9 ce9 hp9 hS9 _ _ g1 g2 g3 => ?_) (fun v H locs hp hS _ _ => ?_)
                            · exact hth _ _ _ _ _ _ _ hS9 (⟨14, q, (by rw [← hx, show U2 F (cH F a + 8 * cN F a) - k = 0 by omega]; exact if_neg (by omega)), ⟨_, hp9.2, rfl, rfl, (chg_sx (by decide) (chg_sx (by decide) (hc.mono (by decide) (by decide))))⟩⟩) g1 g2 g3
                            exact absurd hp.1 (by decide)
                          · refine lv_iconst (v := zI 1) C.1 C.2.1 dX12_codeItems_386 (by decide) ?_
                            refine lv_goto (tgt := 391) C.1 C.2.1 dX12_codeItems_387 (by decide) ?_
                            refine lv_bipush (v := zI 14) C.1 C.2.1 dX12_codeItems_391 (by decide) ?_
                            refine lv_aload_n C.1 C.2.1 dX12_codeItems_393 rfl (lv_at hl 2 rfl) ?_
                            refine m_get C hM 9 (v := .int (σ2.1 9)) (by decide) zw_26_7 rfl rfl dX12_codeItems_394 ?_
                            refine z_re (y := zI ((q : Nat) : Int)) h9 ?_
                            refine z_callVX C (As := [zV (bI true), zN 14, zN q]) (rest := []) (c_X12_must l Z hM true (zI 14) (zI ((q : Nat) : Int))) hM.1 rfl ⟨⟨zw_26_16, zw_1_5, zw_26_13⟩, zd_X12_must⟩ zw_26_14 zw_26_15 ⟨Nat.le_of_ble_eq_true rfl, Nat.le_of_ble_eq_true rfl⟩ ⟨rfl, rfl⟩ rfl hl.1 rfl (Nat.le_of_ble_eq_true rfl) dX12_codeItems_397 ⟨Nat.zero_le _, Nat.zero_le _⟩ hS (fun _ h => h) (fun H9 locs9 q9 ce9 hp9 hS9 _ _ g1 g2 g3 => ?_) (fun v H locs hp hS _ _ => ?_)
                            · exact absurd hp9.1 (by decide)
                            obtain ⟨-, rfl, hM⟩ := hp
                            exact hret _ _ _ _ hS ⟨rfl, (by rw [← hx, show U2 F (cH F a + 8 * cN F a) - k = 0 by omega]; exact if_pos (by omega)), σ2, hM, hc.mono (by decide) (by decide), hbd⟩ dX12_codeItems_400
                        · have hu : U2 F (cH F a + 8 * cN F a) - k = (U2 F (cH F a + 8 * cN F a) - k - 1) + 1 := by omega
                          refine lv_aload_n C.1 C.2.1 dX12_codeItems_335 rfl (lv_at hl 2 rfl) ?_
                          refine lv_ldc2 (v := zL 2) C.1 C.2.1 C.2.2.2.1 (C.2.2.2.2.1 _ zw_26_8) dX12_codeItems_336 ?_
                          refine z_callVX C (As := [.long (zL 2)]) (rest := []) (c_X12_within l Z (n := cE F a) (q := q) (b := 2) hM (h9) (hbd.1) (by omega) (by omega) (by omega)) hM.1 rfl ⟨⟨zw_31_13, zw_1_5, zw_31_10⟩, zd_X12_within⟩ zw_31_11 zw_31_12 ⟨Nat.le_of_ble_eq_true rfl, Nat.le_of_ble_eq_true rfl⟩ ⟨rfl, rfl⟩ rfl hl.1 rfl (Nat.le_of_ble_eq_true rfl) dX12_codeItems_339 ⟨Nat.zero_le _, Nat.zero_le _⟩ hS (fun _ h => h) (fun H9 locs9 q9 ce9 hp9 hS9 _ _ g1 g2 g3 => ?_) (fun v H locs hp hS _ _ => ?_)
                          · exact hth _ _ _ _ _ _ _ hS9 (⟨14, cE F a, (by rw [← hx, hu]; exact xBA_1 (by omega)), ⟨_, hp9.2, rfl, rfl, (chg_sx (by decide) (chg_sx (by decide) (hc.mono (by decide) (by decide))))⟩⟩) g1 g2 g3
                          obtain ⟨ho339, rfl, hM⟩ := hp
                          refine lv_pop C.1 C.2.1 dX12_codeItems_342 rfl ?_
                          refine lv_aload_n C.1 C.2.1 dX12_codeItems_343 rfl (lv_at hl 2 rfl) ?_
                          refine lv_ldc2 (v := zL 4) C.1 C.2.1 C.2.2.2.1 (C.2.2.2.2.1 _ zw_27_16) dX12_codeItems_344 ?_
                          refine z_callVX C (As := [.long (zL 4)]) (rest := []) (c_X12_within l Z (n := cE F a) (q := q + 2) (b := 4) hM (rfl) (hbd.1) (by omega) (by omega) (by omega)) hM.1 rfl ⟨⟨zw_31_13, zw_1_5, zw_31_10⟩, zd_X12_within⟩ zw_31_11 zw_31_12 ⟨Nat.le_of_ble_eq_true rfl, Nat.le_of_ble_eq_true rfl⟩ ⟨rfl, rfl⟩ rfl hl.1 rfl (Nat.le_of_ble_eq_true rfl) dX12_codeItems_347 ⟨Nat.zero_le _, Nat.zero_le _⟩ hS (fun _ h => h) (fun H9 locs9 q9 ce9 hp9 hS9 _ _ g1 g2 g3 => ?_) (fun v H locs hp hS _ _ => ?_)
                          · exact hth _ _ _ _ _ _ _ hS9 (⟨14, cE F a, (by rw [← hx, hu]; exact xBA_1 (by omega)), ⟨_, hp9.2, rfl, rfl, (chg_sx (by decide) (chg_sx (by decide) (chg_sx (by decide) (hc.mono (by decide) (by decide)))))⟩⟩) g1 g2 g3
                          obtain ⟨ho347, rfl, hM⟩ := hp
                          refine lv_istore (lv' := [(8, zN (q + 2)), (7, zN k), (6, zN (U2 F (cH F a + 8 * cN F a))), (0, .ref o), (1, zN i)]) C.1 C.2.1 dX12_codeItems_350 hl (by decide) rfl (fun ls hl => ?_)
                          refine lv_aload_n C.1 C.2.1 dX12_codeItems_352 rfl (lv_at hl 3 rfl) ?_
                          refine lv_aload_n C.1 C.2.1 dX12_codeItems_353 rfl (lv_at hl 3 rfl) ?_
                          refine lv_iload C.1 C.2.1 dX12_codeItems_354 (lv_at hl 0 rfl) ?_
                          refine z_readV C (As := [zN (q + 2)]) (rest := [.ref o]) (c_X12_four l Z hM hB (q + 2) rfl (by omega)) hM.1 rfl ⟨⟨zw_28_2, zw_1_5, zw_27_23⟩, zd_X12_four⟩ zw_28_0 zw_28_1 ⟨Nat.le_of_ble_eq_true rfl, Nat.le_of_ble_eq_true rfl⟩ ⟨rfl, rfl⟩ rfl hl.1 rfl (Nat.le_of_ble_eq_true rfl) dX12_codeItems_356 ⟨Nat.zero_le _, Nat.zero_le _⟩ hS (fun locs hS => ?_)
                          have := S4_rg hB.1 (q + 2)
                          refine y_i2l C (a := S4 F (q + 2)) (by omega) dX12_codeItems_359 ?_
                          refine lv_ldc2 (v := zL 4294967295) C.1 C.2.1 C.2.2.2.1 (C.2.2.2.2.1 _ zw_27_18) dX12_codeItems_360 ?_
                          refine lv_land C.1 C.2.1 dX12_codeItems_363 ?_
                          refine z_reL (y := (zL ((U4 F (q + 2) : Nat) : Int))) (land_U4 hB.1 _) ?_
                          refine z_callVX C (As := [.long (zL ((U4 F (q + 2) : Nat) : Int))]) (rest := []) (c_X12_within l Z (n := cE F a) (q := q + 6) (b := U4 F (q + 2)) hM (rfl) (hbd.1) (by omega) (by omega) (by omega)) hM.1 rfl ⟨⟨zw_31_13, zw_1_5, zw_31_10⟩, zd_X12_within⟩ zw_31_11 zw_31_12 ⟨Nat.le_of_ble_eq_true rfl, Nat.le_of_ble_eq_true rfl⟩ ⟨rfl, rfl⟩ rfl hl.1 rfl (Nat.le_of_ble_eq_true rfl) dX12_codeItems_364 ⟨Nat.zero_le _, Nat.zero_le _⟩ hS (fun _ h => h) (fun H9 locs9 q9 ce9 hp9 hS9 _ _ g1 g2 g3 => ?_) (fun v H locs hp hS _ _ => ?_)
                          · exact hth _ _ _ _ _ _ _ hS9 (⟨14, cE F a, (by rw [← hx, hu]; exact xBA_1 (by omega)), ⟨_, hp9.2, rfl, rfl, (chg_sx (by decide) (chg_sx (by decide) (chg_sx (by decide) (chg_sx (by decide) (hc.mono (by decide) (by decide))))))⟩⟩) g1 g2 g3
                          obtain ⟨ho364, rfl, hM⟩ := hp
                          refine lv_pop C.1 C.2.1 dX12_codeItems_367 rfl ?_
                          refine lv_iinc (v := zI ((k + 1 : Nat) : Int)) (lv' := [(7, zN (k + 1)), (8, zN (q + 2)), (6, zN (U2 F (cH F a + 8 * cN F a))), (0, .ref o), (1, zN i)]) C.1 C.2.1 dX12_codeItems_368 hl (k := 1) rfl (zI_add _ _) (by decide) rfl (fun ls hl => ?_)
                          refine lv_goto (tgt := 328) C.1 C.2.1 dX12_codeItems_371 (by decide) ?_
                          exact ih_loopD (k + 1) (q + 6 + U4 F (q + 2)) _ _ ls _ hS hM (by omega) (zI_c (by omega)) (chg_sx (by decide) (chg_sx (by decide) (chg_sx (by decide) hc))) hbd (by omega) (by rw [← hx, hu, xBA_s (by omega) (by omega)]; rw [show U2 F (cH F a + 8 * cN F a) - (k + 1) = U2 F (cH F a + 8 * cN F a) - k - 1 by omega]) (lv_sub hl [0, 2, 3, 4] rfl)
                    exact loopD (U2 F (cH F a + 8 * cN F a) + 1) 0 (cH F a + 8 * cN F a + 2) _ _ ls _ hS hM (by omega) (zI_c (by omega)) (chg_sx (by decide) hc) hbd (by omega) (by unfold xBody; rw [if_neg (by omega), if_neg (by omega), if_neg (by omega), if_neg (by omega), if_neg (by omega), if_neg (by omega), if_neg (by omega), if_neg (by omega), if_neg (by omega), if_neg (by omega)]; rfl) hl
                  · refine lv_aload_n C.1 C.2.1 dX12_codeItems_298 rfl (lv_at hl 1 rfl) ?_
                    refine lv_ldc2 (v := zL 8) C.1 C.2.1 C.2.2.2.1 (C.2.2.2.2.1 _ zw_27_17) dX12_codeItems_299 ?_
                    refine z_callVX C (As := [.long (zL 8)]) (rest := []) (c_X12_within l Z (n := cE F a) (q := cH F a + 8 * j) (b := 8) hM (h9) (hbd.1) (by omega) (by omega) (by omega)) hM.1 rfl ⟨⟨zw_31_13, zw_1_5, zw_31_10⟩, zd_X12_within⟩ zw_31_11 zw_31_12 ⟨Nat.le_of_ble_eq_true rfl, Nat.le_of_ble_eq_true rfl⟩ ⟨rfl, rfl⟩ rfl hl.1 rfl (Nat.le_of_ble_eq_true rfl) dX12_codeItems_302 ⟨Nat.zero_le _, Nat.zero_le _⟩ hS (fun _ h => h) (fun H9 locs9 q9 ce9 hp9 hS9 _ _ g1 g2 g3 => ?_) (fun v H locs hp hS _ _ => ?_)
                    · exact hth _ _ _ _ _ _ _ hS9 (⟨14, cE F a, (by unfold xBody; rw [if_neg (by omega), if_neg (by omega), if_neg (by omega), if_neg (by omega), if_neg (by omega), if_neg (by omega), if_neg (by omega), if_neg (by omega), if_neg (by omega), if_pos (by omega)]), ⟨_, hp9.2, rfl, rfl, (chg_sx (by decide) (chg_sx (by decide) (hc.mono (by decide) (by decide))))⟩⟩) g1 g2 g3
                    obtain ⟨ho302, rfl, hM⟩ := hp
                    refine lv_pop C.1 C.2.1 dX12_codeItems_305 rfl ?_
                    refine lv_iinc (v := zI ((j + 1 : Nat) : Int)) (lv' := [(6, zN (j + 1)), (0, .ref o), (1, zN i)]) C.1 C.2.1 dX12_codeItems_306 hl (k := 0) rfl (zI_add _ _) (by decide) rfl (fun ls hl => ?_)
                    refine lv_goto (tgt := 287) C.1 C.2.1 dX12_codeItems_309 (by decide) ?_
                    exact ih_loopC (j + 1) _ _ ls _ hS hM (by omega) (zI_c (by omega)) (chg_sx (by decide) hc) hbd (by omega) hl
              exact loopC (cN F a + 1) 0 _ _ ls _ hS hM (by omega) rfl (chg_sf (by decide) (chg_sf (by decide) (chg_sx (by decide) (chg_sf (by decide) (chg_sf (by decide) (chg_sx (by decide) (chg_sx (by decide) (chg_sf (by decide) (chg_sx (by decide) (chg_sf (by decide) (chg_sx (by decide) (chg_sx (by decide) (chg_sx (by decide) chg.rf))))))))))))) ⟨rfl, rfl, rfl, rfl, rfl, rfl, rfl⟩ (by omega) (lv_sub hl [0, 5, 6] rfl)
