/-! the model: rules 9 to 12 -/
theorem fst1_none {g : Nat → Option Nat} : ∀ (c i : Nat), fst1 g c i = none → ∀ j, i ≤ j → j < i + c → g j = none := by
  intro c
  induction c with
  | zero => intro i _ j h1 h2; omega
  | succ c ih =>
    intro i h j h1 h2
    unfold fst1 at h
    split at h
    · exact absurd h (by simp)
    · rename_i e
      rcases Nat.eq_or_lt_of_le h1 with h3 | h3
      · rw [← h3]; exact e
      · exact ih (i + 1) h j h3 (by omega)
theorem or_none {a b : Option Nat} (h : a.or b = none) : a = none ∧ b = none := by cases a <;> simp_all
theorem gN_none {F tb : Nat → Nat} {pc q : Nat} (h : gN F tb pc q = none) : isE F tb pc (U2 F q) 1 = true := by
  unfold gN at h
  split at h
  · assumption
  · exact absurd h (by simp)
theorem x9a_none {F tb : Nat → Nat} {pc a : Nat} (h : x9a F tb pc a = none) {j : Nat} (hj : j < U2 F a) : isE F tb pc (U2 F (atp F a j)) 1 = true := gN_none (fst1_none _ _ h j (Nat.zero_le _) (by omega))
theorem x9_m {F tb mt : Nat → Nat} {pc mc fa : Nat} (h : x9 F tb pc mt mc fa = none) {i : Nat} (hi : i < mc) : isE F tb pc (U2 F (mt i + 2)) 1 = true ∧ isE F tb pc (U2 F (mt i + 4)) 1 = true ∧ ∀ j, j < U2 F (mt i + 6) → isE F tb pc (U2 F (atp F (mt i + 6) j)) 1 = true := by
  obtain ⟨h1, -⟩ := or_none h
  have h2 := fst1_none _ _ h1 i (Nat.zero_le _) (by omega)
  obtain ⟨h3, h4⟩ := or_none h2
  obtain ⟨h5, h6⟩ := or_none h4
  exact ⟨gN_none h3, gN_none h5, fun j hj => x9a_none h6 hj⟩
theorem x6_k {F tb : Nat → Nat} {pc : Nat} (h : x6 F tb pc = none) {k : Nat} (h1 : 1 ≤ k) (h2 : k < pc) : good6 F tb pc k = true := by
  have := fst1_none _ _ h k h1 (by omega)
  unfold g6 at this
  split at this
  · assumption
  · exact absurd this (by simp)
theorem x6_pair {F tb : Nat → Nat} {pc : Nat} (h : x6 F tb pc = none) {k : Nat} (hk : isE F tb pc k 12 = true) : isE F tb pc (e1 F tb k) 1 = true ∧ isE F tb pc (e2 F tb k) 1 = true := by
  obtain ⟨h1, h2, h3⟩ := isE_t hk
  have g := x6_k h h1 h2
  unfold good6 at g
  rw [if_neg (by omega), if_pos h3, Bool.and_eq_true] at g
  exact g
theorem x6_mem {F tb : Nat → Nat} {pc : Nat} (h : x6 F tb pc = none) {k : Nat} (h1 : 1 ≤ k) (h2 : k < pc) (ht : tg F tb k = 9 ∨ tg F tb k = 10) : isE F tb pc (e1 F tb k) 7 = true ∧ isE F tb pc (e2 F tb k) 12 = true := by
  have g := x6_k h h1 h2
  unfold good6 at g
  rw [if_neg (by omega), if_neg (by omega), if_pos ht, Bool.and_eq_true] at g
  exact g
theorem abase_find {F mt : Nat → Nat} : ∀ mc a, a < abase F mt mc → ∃ i j, i < mc ∧ j < U2 F (mt i + 6) ∧ a = abase F mt i + j := by
  intro mc
  induction mc with
  | zero => intro a h; exact absurd h (Nat.not_lt_zero a)
  | succ mc ih =>
    intro a h
    have e : abase F mt (mc + 1) = abase F mt mc + U2 F (mt mc + 6) := rfl
    rcases Nat.lt_or_ge a (abase F mt mc) with h2 | h2
    · obtain ⟨i, j, g1, g2, g3⟩ := ih a h2
      exact ⟨i, j, by omega, g2, g3⟩
    · exact ⟨mc, a - abase F mt mc, by omega, by omega, by omega⟩
/-- whose attribute a is -/
theorem mLay.own {σ : mS} {F : Nat → Nat} {n cl nf nm fa last : Nat} {tb mt : Nat → Nat} (h : mLay σ F n tb cl nf nm mt fa last) {a : Nat} (ha : a < abase F mt (nf + nm) + U2 F fa) :
    (∃ i j, i < nf + nm ∧ j < U2 F (mt i + 6) ∧ a = abase F mt i + j ∧ σ.2.1 23 a = zI (i : Int) ∧ σ.2.1 22 a = zI (atp F (mt i + 6) j : Int) ∧ atIn F n (mt i + 6) j) ∨ (abase F mt (nf + nm) ≤ a ∧ σ.2.1 23 a = zI (-1)) := by
  obtain ⟨-, -, -, -, -, -, -, -, -, -, hM, -, -, hF, -⟩ := h
  rcases Nat.lt_or_ge a (abase F mt (nf + nm)) with h2 | h2
  · obtain ⟨i, j, g1, g2, g3⟩ := abase_find _ a h2
    obtain ⟨g4, g5, g6⟩ := (hM i g1).2.2 j g2
    exact Or.inl ⟨i, j, g1, g2, g3, by rw [g3]; exact g5, by rw [g3]; exact g4, g6⟩
  · obtain ⟨-, g5, -⟩ := hF (a - abase F mt (nf + nm)) (by omega)
    rw [show abase F mt (nf + nm) + (a - abase F mt (nf + nm)) = a by omega] at g5
    exact Or.inr ⟨h2, g5⟩
theorem mLay.ownN {σ : mS} {F : Nat → Nat} {n cl nf nm fa last : Nat} {tb mt : Nat → Nat} (h : mLay σ F n tb cl nf nm mt fa last) {a i : Nat} (h1 : abase F mt (i + 1) ≤ a) (ha : a < abase F mt (nf + nm) + U2 F fa) : ∃ t : Int, σ.2.1 23 a = zI t ∧ t ≠ (i : Int) ∧ -1 ≤ t ∧ t < 48 := by
  have hnf := h.2.2.2.2.2.2.2.2.1
  have hnm := h.2.2.2.2.2.2.2.2.2.1
  rcases h.own ha with ⟨i2, j, g1, g2, g3, g4, -, -⟩ | ⟨-, g⟩
  · refine ⟨(i2 : Int), g4, fun z => ?_, by omega, by omega⟩
    have e : i2 = i := by omega
    subst e
    have e2 : abase F mt (i2 + 1) = abase F mt i2 + U2 F (mt i2 + 6) := rfl
    omega
  · exact ⟨-1, g, by omega, by omega, by omega⟩

set_option maxHeartbeats 4000000 in
set_option maxRecDepth 20000 in
theorem c_X12_mustName (l : Launch) (Z : zT) {H : Heap} {o : Nat} {ad : Nat → Nat} {σ : mS} (hM : isM Z H o ad σ) {F : Nat → Nat} {n : Nat} (hB : mSrc σ F n) {cl nf nm fa last : Nat} {tb mt : Nat → Nat} (hL : mLay σ F n tb cl nf nm mt fa last) {t : Int} (q : Nat) (ht : t = (q : Int)) (hq : q + 1 < n) : zX l Z yX12_mustName cX12_mustName 2 none (rmk 3) [.ref o, zV t] H (mA o ad) 0 0 (fun v H' => v = none ∧ gN F tb (U2 F 8) q = none ∧ isM Z H' o ad σ) (fun H' => ∃ w9 : Nat, gN F tb (U2 F 8) q = some w9 ∧ mBrk Z o ad [4, 5] [] σ 9 w9 H') := by
  subst ht
  refine zX.introV (own := RX12) ⟨by decide, rfl⟩ (Nat.le_of_ble_eq_true rfl) ?_
  intro p e s m args below meth c Q ls hH C hl hth hret
  have hS : va_S (mA o ad) s.heap H [] := by rw [hH]; exact va_S.rf
  have hl : lv_has ls 2 [(0, .ref o), (1, zN q)] := hl
  refine lv_aload_n C.1 C.2.1 dX12_mustName_0 rfl (lv_at hl 0 rfl) ?_
  refine lv_aload_n C.1 C.2.1 dX12_mustName_1 rfl (lv_at hl 0 rfl) ?_
  refine lv_aload_n C.1 C.2.1 dX12_mustName_2 rfl (lv_at hl 0 rfl) ?_
  refine lv_iload_n C.1 C.2.1 dX12_mustName_3 rfl (lv_at hl 1 rfl) ?_
  refine z_readV C (As := [zN q]) (rest := [.ref o, .ref o]) (c_X12_two l Z hM hB q rfl (by omega)) hM.1 rfl ⟨⟨zw_27_11, zw_1_5, zw_27_8⟩, zd_X12_two⟩ zw_27_9 zw_27_10 ⟨Nat.le_of_ble_eq_true rfl, Nat.le_of_ble_eq_true rfl⟩ ⟨rfl, rfl⟩ rfl hl.1 rfl (Nat.le_of_ble_eq_true rfl) dX12_mustName_4 ⟨Nat.zero_le _, Nat.zero_le _⟩ hS (fun locs hS => ?_)
  have := U2_lt hB.1 q
  refine lv_iconst (v := zI 1) C.1 C.2.1 dX12_mustName_7 (by decide) ?_
  refine z_readV C (As := [zN (U2 F q), zN 1]) (rest := [.ref o]) (c_X12_isEntry l Z hM hB hL (U2 F q) 1 rfl (by omega) (by omega)) hM.1 rfl ⟨⟨zw_28_18, zw_1_5, zw_28_15⟩, zd_X12_isEntry⟩ zw_28_16 zw_28_17 ⟨Nat.le_of_ble_eq_true rfl, Nat.le_of_ble_eq_true rfl⟩ ⟨rfl, rfl⟩ rfl hl.1 rfl (Nat.le_of_ble_eq_true rfl) dX12_mustName_8 ⟨Nat.zero_le _, Nat.zero_le _⟩ hS (fun locs hS => ?_)
  refine lv_bipush (v := zI 9) C.1 C.2.1 dX12_mustName_11 (by decide) ?_
  refine lv_iload_n C.1 C.2.1 dX12_mustName_13 rfl (lv_at hl 1 rfl) ?_
  refine z_callVX C (As := [zV (bI (isE F tb (U2 F 8) (U2 F q) 1)), zN 9, zN q]) (rest := []) (c_X12_must l Z hM (isE F tb (U2 F 8) (U2 F q) 1) (zI 9) (zI ((q : Nat) : Int))) hM.1 rfl ⟨⟨zw_26_16, zw_1_5, zw_26_13⟩, zd_X12_must⟩ zw_26_14 zw_26_15 ⟨Nat.le_of_ble_eq_true rfl, Nat.le_of_ble_eq_true rfl⟩ ⟨rfl, rfl⟩ rfl hl.1 rfl (Nat.le_of_ble_eq_true rfl) dX12_mustName_14 ⟨Nat.zero_le _, Nat.zero_le _⟩ hS (fun _ h => h) (fun H9 locs9 q9 ce9 hp9 hS9 _ _ g1 g2 g3 => ?_) (fun v H locs hp hS _ _ => ?_)
  · exact hth _ _ _ _ _ _ _ hS9 (⟨q, (by unfold gN; rw [if_neg (by rw [hp9.1]; decide)]), ⟨_, hp9.2, rfl, rfl, (chg_sx (by decide) (chg_sx (by decide) chg.rf))⟩⟩) g1 g2 g3
  obtain ⟨hb14, rfl, hM⟩ := hp
  exact hret _ _ _ _ hS ⟨rfl, (by unfold gN; rw [if_pos hb14]), hM⟩ dX12_mustName_17

set_option maxHeartbeats 4000000 in
set_option maxRecDepth 20000 in
theorem c_X12_names (l : Launch) (Z : zT) {H : Heap} {o : Nat} {ad : Nat → Nat} {σ : mS} (hM : isM Z H o ad σ) {F : Nat → Nat} {n : Nat} (hB : mSrc σ F n) {cl nf nm fa last : Nat} {tb mt : Nat → Nat} (hL : mLay σ F n tb cl nf nm mt fa last) : zX l Z yX12_names cX12_names 3 none (rmk 4) [.ref o] H (mA o ad) 0 0 (fun v H' => v = none ∧ x9 F tb (U2 F 8) mt (nf + nm) fa = none ∧ isM Z H' o ad σ) (fun H' => ∃ w9 : Nat, x9 F tb (U2 F 8) mt (nf + nm) fa = some w9 ∧ mBrk Z o ad [4, 5] [] σ 9 w9 H') := by
  have hn := hB.2.2.2
  have hpc := hL.2.1
  have hcl := hL.2.2.2.2.2.1
  have hnf := hL.2.2.2.2.2.2.2.2.1
  have hnm := hL.2.2.2.2.2.2.2.2.2.1
  have hMt := hL.2.2.2.2.2.2.2.2.2.2.1
  have hna := hL.2.2.2.2.2.2.2.2.2.2.2.2.1
  have hFa := hL.2.2.2.2.2.2.2.2.2.2.2.2.2.1
  refine zX.introV (own := RX12) ⟨by decide, rfl⟩ (Nat.le_of_ble_eq_true rfl) ?_
  intro p e s m args below meth c Q ls hH C hl hth hret
  have hS : va_S (mA o ad) s.heap H [] := by rw [hH]; exact va_S.rf
  have hl : lv_has ls 3 [(0, .ref o)] := hl
  refine lv_iconst (v := zI 0) C.1 C.2.1 dX12_names_0 (by decide) ?_
  refine lv_istore_n (lv' := [(1, zN 0), (0, .ref o)]) C.1 C.2.1 dX12_names_1 rfl hl (by decide) rfl (fun ls hl => ?_)
  refine lv_iconst (v := zI 0) C.1 C.2.1 dX12_names_2 (by decide) ?_
  refine lv_istore_n (lv' := [(2, zN 0), (1, zN 0), (0, .ref o)]) C.1 C.2.1 dX12_names_3 rfl hl (by decide) rfl (fun ls hl => ?_)
  have loopO : ∀ (fu : Nat) (i : Nat) (H : Heap) (ls : Array Slot) (locs : List Loc), va_S (mA o ad) s.heap H locs → isM Z H o ad σ → (i + fu = nf + nm + 1 ∧ i ≤ nf + nm) → ((fst1 (x9m F tb (U2 F 8) mt) (nf + nm - i) i).or (x9a F tb (U2 F 8) fa) = x9 F tb (U2 F 8) mt (nf + nm) fa) → lv_has ls 3 [(2, zN i), (1, zN (abase F mt i)), (0, .ref o)] → W p l e (rmk 4) s m args below meth c H locs 0 0 Q (F0 m 4 ls []) := by
    intro fu
    induction fu with
    | zero =>
      intro i H ls locs hS hM hi hx hl
      omega
    | succ fu ih_loopO =>
      intro i H ls locs hS hM hi hx hl
      refine lv_iload_n C.1 C.2.1 dX12_names_4 rfl (lv_at hl 0 rfl) ?_
      refine lv_aload_n C.1 C.2.1 dX12_names_5 rfl (lv_at hl 2 rfl) ?_
      refine m_get C hM 17 (v := .int (σ.1 17)) (by decide) zw_25_23 rfl rfl dX12_names_6 ?_
      refine z_re (y := zI ((nf + nm : Nat) : Int)) hL.2.2.2.2.2.2.1 ?_
      refine y_icmp_ge (tgt := 76) C (a := ((i : Nat) : Int)) (b := ((nf + nm : Nat) : Int)) dX12_names_9 (by decide) (by omega) (fun h9 => ?_) (fun h9 => ?_)
      · have ei : i = nf + nm := by omega
        have hxe : x9a F tb (U2 F 8) fa = x9 F tb (U2 F 8) mt (nf + nm) fa := by rw [← hx, ei, Nat.sub_self]; rfl
        rw [show (abase F mt i : Nat) = abase F mt (nf + nm) + 0 from by rw [ei]; rfl] at hl
        have loopE : ∀ (fv : Nat) (j : Nat) (H : Heap) (ls : Array Slot) (locs : List Loc), va_S (mA o ad) s.heap H locs → isM Z H o ad σ → (j + fv = U2 F fa + 1 ∧ j ≤ U2 F fa) → (fst1 (fun j => gN F tb (U2 F 8) (atp F fa j)) (U2 F fa - j) j = x9a F tb (U2 F 8) fa) → lv_has ls 3 [(1, zN (abase F mt (nf + nm) + j)), (2, zN i), (0, .ref o)] → W p l e (rmk 4) s m args below meth c H locs 0 0 Q (F0 m 76 ls []) := by
          intro fv
          induction fv with
          | zero =>
            intro j H ls locs hS hM hj0 hy hl
            omega
          | succ fv ih_loopE =>
            intro j H ls locs hS hM hj0 hy hl
            refine lv_iload_n C.1 C.2.1 dX12_names_76 rfl (lv_at hl 0 rfl) ?_
            refine lv_aload_n C.1 C.2.1 dX12_names_77 rfl (lv_at hl 2 rfl) ?_
            refine m_get C hM 21 (v := .int (σ.1 21)) (by decide) zw_26_12 rfl rfl dX12_names_78 ?_
            refine z_re (y := zI ((abase F mt (nf + nm) + U2 F fa : Nat) : Int)) hL.2.2.2.2.2.2.2.2.2.2.2.1 ?_
            refine y_icmp_ge (tgt := 100) C (a := ((abase F mt (nf + nm) + j : Nat) : Int)) (b := ((abase F mt (nf + nm) + U2 F fa : Nat) : Int)) dX12_names_81 (by decide) (by omega) (fun h81 => ?_) (fun h81 => ?_)
            · exact hret _ _ _ _ hS ⟨rfl, (by rw [← hxe, ← hy, show U2 F fa - j = 0 by omega]; rfl), hM⟩ dX12_names_100
            · obtain ⟨hat, how, hin1, hin2⟩ := hFa j (by omega)
              have hv : U2 F fa - j = (U2 F fa - j - 1) + 1 := by omega
              refine lv_aload_n C.1 C.2.1 dX12_names_84 rfl (lv_at hl 2 rfl) ?_
              refine lv_aload_n C.1 C.2.1 dX12_names_85 rfl (lv_at hl 2 rfl) ?_
              refine m_get C hM 22 (v := .ref (ad 22)) (by decide) zw_5_5 rfl rfl dX12_names_86 ?_
              refine lv_iload_n C.1 C.2.1 dX12_names_89 rfl (lv_at hl 0 rfl) ?_
              refine m_ald C hM 22 (by decide) (abase F mt (nf + nm) + j) (t := ((abase F mt (nf + nm) + j : Nat) : Int)) rfl (by show _ < 3000; omega) dX12_names_90 ?_
              refine z_re (y := zI ((atp F fa j : Nat) : Int)) hat ?_
              refine z_callVX C (As := [zN (atp F fa j)]) (rest := []) (c_X12_mustName l Z hM hB hL (atp F fa j) rfl (by omega)) hM.1 rfl ⟨⟨zw_29_10, zw_1_5, zw_29_7⟩, zd_X12_mustName⟩ zw_29_8 zw_29_9 ⟨Nat.le_of_ble_eq_true rfl, Nat.le_of_ble_eq_true rfl⟩ ⟨rfl, rfl⟩ rfl hl.1 rfl (Nat.le_of_ble_eq_true rfl) dX12_names_91 ⟨Nat.zero_le _, Nat.zero_le _⟩ hS (fun _ h => h) (fun H9 locs9 q9 ce9 hp9 hS9 _ _ g1 g2 g3 => ?_) (fun v H locs hp hS _ _ => ?_)
              · obtain ⟨q, hx9, hb9⟩ := hp9
                exact hth _ _ _ _ _ _ _ hS9 ⟨q, (by rw [← hxe, ← hy, hv]; exact fst1_e (g := fun j => gN F tb (U2 F 8) (atp F fa j)) hx9), hb9⟩ g1 g2 g3
              obtain ⟨rfl, hg91, hM⟩ := hp
              refine lv_iinc (v := zI ((abase F mt (nf + nm) + j + 1 : Nat) : Int)) (lv' := [(1, zN (abase F mt (nf + nm) + j + 1)), (2, zN i), (0, .ref o)]) C.1 C.2.1 dX12_names_94 hl (k := 0) rfl (zI_add _ _) (by decide) rfl (fun ls hl => ?_)
              refine lv_goto (tgt := 76) C.1 C.2.1 dX12_names_97 (by decide) ?_
              exact ih_loopE (j + 1) _ ls _ hS hM (by omega) (by rw [← hy, hv, fst1_s (g := fun j => gN F tb (U2 F 8) (atp F fa j)) hg91]; rw [show U2 F fa - (j + 1) = U2 F fa - j - 1 by omega]) hl
        exact loopE (U2 F fa + 1) 0 _ ls _ hS hM (by omega) rfl (lv_sub hl [1, 0, 2] rfl)
      · have hu : nf + nm - i = (nf + nm - i - 1) + 1 := by omega
        have hmi := (hMt i (by omega)).2.1
        have hab : abase F mt i + U2 F (mt i + 6) ≤ abase F mt (nf + nm) := abase_le (i := i + 1) _ (by omega)
        refine lv_aload_n C.1 C.2.1 dX12_names_12 rfl (lv_at hl 2 rfl) ?_
        refine lv_aload_n C.1 C.2.1 dX12_names_13 rfl (lv_at hl 2 rfl) ?_
        refine m_get C hM 20 (v := .ref (ad 20)) (by decide) zw_5_4 rfl rfl dX12_names_14 ?_
        refine lv_iload_n C.1 C.2.1 dX12_names_17 rfl (lv_at hl 0 rfl) ?_
        refine m_ald C hM 20 (by decide) i (t := ((i : Nat) : Int)) rfl (by show _ < 48; omega) dX12_names_18 ?_
        refine z_re (y := zI ((mt i : Nat) : Int)) ((hMt i (by omega)).1) ?_
        refine lv_iconst (v := zI 2) C.1 C.2.1 dX12_names_19 (by decide) ?_
        refine y_iaddN C (a := mt i) (b := 2) dX12_names_20 ?_
        refine z_callVX C (As := [zN ((mt i) + 2)]) (rest := []) (c_X12_mustName l Z hM hB hL ((mt i) + 2) rfl (by omega)) hM.1 rfl ⟨⟨zw_29_10, zw_1_5, zw_29_7⟩, zd_X12_mustName⟩ zw_29_8 zw_29_9 ⟨Nat.le_of_ble_eq_true rfl, Nat.le_of_ble_eq_true rfl⟩ ⟨rfl, rfl⟩ rfl hl.1 rfl (Nat.le_of_ble_eq_true rfl) dX12_names_21 ⟨Nat.zero_le _, Nat.zero_le _⟩ hS (fun _ h => h) (fun H9 locs9 q9 ce9 hp9 hS9 _ _ g1 g2 g3 => ?_) (fun v H locs hp hS _ _ => ?_)
        · obtain ⟨q, hx9, hb9⟩ := hp9
          exact hth _ _ _ _ _ _ _ hS9 ⟨q, (by rw [← hx, hu, fst1_e (or_s hx9)]; rfl), hb9⟩ g1 g2 g3
        obtain ⟨rfl, hg21, hM⟩ := hp
        refine lv_aload_n C.1 C.2.1 dX12_names_24 rfl (lv_at hl 2 rfl) ?_
        refine lv_aload_n C.1 C.2.1 dX12_names_25 rfl (lv_at hl 2 rfl) ?_
        refine m_get C hM 20 (v := .ref (ad 20)) (by decide) zw_5_4 rfl rfl dX12_names_26 ?_
        refine lv_iload_n C.1 C.2.1 dX12_names_29 rfl (lv_at hl 0 rfl) ?_
        refine m_ald C hM 20 (by decide) i (t := ((i : Nat) : Int)) rfl (by show _ < 48; omega) dX12_names_30 ?_
        refine z_re (y := zI ((mt i : Nat) : Int)) ((hMt i (by omega)).1) ?_
        refine lv_iconst (v := zI 4) C.1 C.2.1 dX12_names_31 (by decide) ?_
        refine y_iaddN C (a := mt i) (b := 4) dX12_names_32 ?_
        refine z_callVX C (As := [zN ((mt i) + 4)]) (rest := []) (c_X12_mustName l Z hM hB hL ((mt i) + 4) rfl (by omega)) hM.1 rfl ⟨⟨zw_29_10, zw_1_5, zw_29_7⟩, zd_X12_mustName⟩ zw_29_8 zw_29_9 ⟨Nat.le_of_ble_eq_true rfl, Nat.le_of_ble_eq_true rfl⟩ ⟨rfl, rfl⟩ rfl hl.1 rfl (Nat.le_of_ble_eq_true rfl) dX12_names_33 ⟨Nat.zero_le _, Nat.zero_le _⟩ hS (fun _ h => h) (fun H9 locs9 q9 ce9 hp9 hS9 _ _ g1 g2 g3 => ?_) (fun v H locs hp hS _ _ => ?_)
        · obtain ⟨q, hx9, hb9⟩ := hp9
          exact hth _ _ _ _ _ _ _ hS9 ⟨q, (by rw [← hx, hu, fst1_e ((or_n hg21).trans (or_s hx9))]; rfl), hb9⟩ g1 g2 g3
        obtain ⟨rfl, hg33, hM⟩ := hp
        have loopI : ∀ (fv : Nat) (j : Nat) (H : Heap) (ls : Array Slot) (locs : List Loc), va_S (mA o ad) s.heap H locs → isM Z H o ad σ → (j + fv = U2 F (mt i + 6) + 1 ∧ j ≤ U2 F (mt i + 6)) → (fst1 (fun j => gN F tb (U2 F 8) (atp F (mt i + 6) j)) (U2 F (mt i + 6) - j) j = x9a F tb (U2 F 8) (mt i + 6)) → lv_has ls 3 [(1, zN (abase F mt i + j)), (2, zN i), (0, .ref o)] → W p l e (rmk 4) s m args below meth c H locs 0 0 Q (F0 m 36 ls []) := by
          intro fv
          induction fv with
          | zero =>
            intro j H ls locs hS hM hj0 hy hl
            omega
          | succ fv ih_loopI =>
            intro j H ls locs hS hM hj0 hy hl
            refine lv_iload_n C.1 C.2.1 dX12_names_36 rfl (lv_at hl 0 rfl) ?_
            refine lv_aload_n C.1 C.2.1 dX12_names_37 rfl (lv_at hl 2 rfl) ?_
            refine m_get C hM 21 (v := .int (σ.1 21)) (by decide) zw_26_12 rfl rfl dX12_names_38 ?_
            refine z_re (y := zI ((abase F mt (nf + nm) + U2 F fa : Nat) : Int)) hL.2.2.2.2.2.2.2.2.2.2.2.1 ?_
            refine y_icmp_ge (tgt := 70) C (a := ((abase F mt i + j : Nat) : Int)) (b := ((abase F mt (nf + nm) + U2 F fa : Nat) : Int)) dX12_names_41 (by decide) (by omega) (fun h41 => ?_) (fun h41 => ?_)
            · have ej : j = U2 F (mt i + 6) := by omega
              refine lv_iinc (v := zI ((i + 1 : Nat) : Int)) (lv' := [(2, zN (i + 1)), (1, zN (abase F mt i + j)), (0, .ref o)]) C.1 C.2.1 dX12_names_70 hl (k := 1) rfl (zI_add _ _) (by decide) rfl (fun ls hl => ?_)
              rw [show (abase F mt i + j : Nat) = abase F mt (i + 1) from by rw [ej]; rfl] at hl
              refine lv_goto (tgt := 4) C.1 C.2.1 dX12_names_73 (by decide) ?_
              exact ih_loopO (i + 1) _ ls _ hS hM (by omega) (by rw [← hx, hu, fst1_s ((or_n hg21).trans ((or_n hg33).trans (by rw [← hy, show U2 F (mt i + 6) - j = 0 by omega]; rfl)))]; rw [show nf + nm - (i + 1) = nf + nm - i - 1 by omega]) hl
            · rcases Nat.lt_or_ge j (U2 F (mt i + 6)) with hj | hj
              · obtain ⟨hat, how, hin1, hin2⟩ := (hMt i (by omega)).2.2 j hj
                have hv : U2 F (mt i + 6) - j = (U2 F (mt i + 6) - j - 1) + 1 := by omega
                refine lv_aload_n C.1 C.2.1 dX12_names_44 rfl (lv_at hl 2 rfl) ?_
                refine m_get C hM 23 (v := .ref (ad 23)) (by decide) zw_5_6 rfl rfl dX12_names_45 ?_
                refine lv_iload_n C.1 C.2.1 dX12_names_48 rfl (lv_at hl 0 rfl) ?_
                refine m_ald C hM 23 (by decide) (abase F mt i + j) (t := ((abase F mt i + j : Nat) : Int)) rfl (by show _ < 3000; omega) dX12_names_49 ?_
                refine z_re (y := zI ((i : Nat) : Int)) how ?_
                refine lv_iload_n C.1 C.2.1 dX12_names_50 rfl (lv_at hl 1 rfl) ?_
                refine y_icmp_ne (tgt := 70) C (a := ((i : Nat) : Int)) (b := ((i : Nat) : Int)) dX12_names_51 (by decide) (by omega) (fun h51 => ?_) (fun h51 => ?_)
                · exact absurd h51 (by omega)
                · refine lv_aload_n C.1 C.2.1 dX12_names_54 rfl (lv_at hl 2 rfl) ?_
                  refine lv_aload_n C.1 C.2.1 dX12_names_55 rfl (lv_at hl 2 rfl) ?_
                  refine m_get C hM 22 (v := .ref (ad 22)) (by decide) zw_5_5 rfl rfl dX12_names_56 ?_
                  refine lv_iload_n C.1 C.2.1 dX12_names_59 rfl (lv_at hl 0 rfl) ?_
                  refine m_ald C hM 22 (by decide) (abase F mt i + j) (t := ((abase F mt i + j : Nat) : Int)) rfl (by show _ < 3000; omega) dX12_names_60 ?_
                  refine z_re (y := zI ((atp F (mt i + 6) j : Nat) : Int)) hat ?_
                  refine z_callVX C (As := [zN (atp F (mt i + 6) j)]) (rest := []) (c_X12_mustName l Z hM hB hL (atp F (mt i + 6) j) rfl (by omega)) hM.1 rfl ⟨⟨zw_29_10, zw_1_5, zw_29_7⟩, zd_X12_mustName⟩ zw_29_8 zw_29_9 ⟨Nat.le_of_ble_eq_true rfl, Nat.le_of_ble_eq_true rfl⟩ ⟨rfl, rfl⟩ rfl hl.1 rfl (Nat.le_of_ble_eq_true rfl) dX12_names_61 ⟨Nat.zero_le _, Nat.zero_le _⟩ hS (fun _ h => h) (fun H9 locs9 q9 ce9 hp9 hS9 _ _ g1 g2 g3 => ?_) (fun v H locs hp hS _ _ => ?_)
                  · obtain ⟨q, hx9, hb9⟩ := hp9
                    exact hth _ _ _ _ _ _ _ hS9 ⟨q, (by rw [← hx, hu, fst1_e ((or_n hg21).trans ((or_n hg33).trans (by rw [← hy, hv]; exact fst1_e (g := fun j => gN F tb (U2 F 8) (atp F (mt i + 6) j)) hx9)))]; rfl), hb9⟩ g1 g2 g3
                  obtain ⟨rfl, hg61, hM⟩ := hp
                  refine lv_iinc (v := zI ((abase F mt i + j + 1 : Nat) : Int)) (lv' := [(1, zN (abase F mt i + j + 1)), (2, zN i), (0, .ref o)]) C.1 C.2.1 dX12_names_64 hl (k := 0) rfl (zI_add _ _) (by decide) rfl (fun ls hl => ?_)
                  refine lv_goto (tgt := 36) C.1 C.2.1 dX12_names_67 (by decide) ?_
                  exact ih_loopI (j + 1) _ ls _ hS hM (by omega) (by rw [← hy, hv, fst1_s (g := fun j => gN F tb (U2 F 8) (atp F (mt i + 6) j)) hg61]; rw [show U2 F (mt i + 6) - (j + 1) = U2 F (mt i + 6) - j - 1 by omega]) hl
              · obtain ⟨tw, how, hne, hr1, hr2⟩ := hL.ownN (i := i) (a := abase F mt i + j) (by show abase F mt i + U2 F (mt i + 6) ≤ _; omega) (by omega)
                refine lv_aload_n C.1 C.2.1 dX12_names_44 rfl (lv_at hl 2 rfl) ?_
                refine m_get C hM 23 (v := .ref (ad 23)) (by decide) zw_5_6 rfl rfl dX12_names_45 ?_
                refine lv_iload_n C.1 C.2.1 dX12_names_48 rfl (lv_at hl 0 rfl) ?_
                refine m_ald C hM 23 (by decide) (abase F mt i + j) (t := ((abase F mt i + j : Nat) : Int)) rfl (by show _ < 3000; omega) dX12_names_49 ?_
                refine z_re (y := zI tw) how ?_
                refine lv_iload_n C.1 C.2.1 dX12_names_50 rfl (lv_at hl 1 rfl) ?_
                refine y_icmp_ne (tgt := 70) C (a := tw) (b := ((i : Nat) : Int)) dX12_names_51 (by decide) (by omega) (fun h51 => ?_) (fun h51 => ?_)
                · have ej : j = U2 F (mt i + 6) := by omega
                  refine lv_iinc (v := zI ((i + 1 : Nat) : Int)) (lv' := [(2, zN (i + 1)), (1, zN (abase F mt i + j)), (0, .ref o)]) C.1 C.2.1 dX12_names_70 hl (k := 1) rfl (zI_add _ _) (by decide) rfl (fun ls hl => ?_)
                  rw [show (abase F mt i + j : Nat) = abase F mt (i + 1) from by rw [ej]; rfl] at hl
                  refine lv_goto (tgt := 4) C.1 C.2.1 dX12_names_73 (by decide) ?_
                  exact ih_loopO (i + 1) _ ls _ hS hM (by omega) (by rw [← hx, hu, fst1_s ((or_n hg21).trans ((or_n hg33).trans (by rw [← hy, show U2 F (mt i + 6) - j = 0 by omega]; rfl)))]; rw [show nf + nm - (i + 1) = nf + nm - i - 1 by omega]) hl
                · exact absurd h51 (by omega)
        exact loopI (U2 F (mt i + 6) + 1) 0 _ ls _ hS hM (by omega) rfl (lv_sub hl [1, 0, 2] rfl)
  exact loopO (nf + nm + 1) 0 _ ls _ hS hM (by omega) rfl hl
