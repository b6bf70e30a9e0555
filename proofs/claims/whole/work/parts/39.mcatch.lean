/-! the model: errorName, caught -/
theorem z_ldcSw {p : Program} {l : Launch} {e : Env} {R : Room} {s : State} {m : MethodId} {args : Array Value} {below : List Frame} {meth : Method} {c : Code} {H : Heap} {locs : List Loc} {cells slots : Nat} {Q : State → Prop} {cc : ByteArray} {pc : Nat} {ls : Array Slot} {rest : List Value} (hexec : p.tables.exec = Jvm.exec) (hb : c.code = cc) {own tx : String} {index q : Nat} (hown : s.vm.findClass own = some m.cls) (hZ : vk_R own index tx q s) (hdg : decode cc pc = .ok (.ldc_w index, 3))
    (k : W p l e R s m args below meth c H locs cells slots Q (F0 m (pc + 3) ls (.ref q :: rest))) : W p l e R s m args below meth c H locs cells slots Q (F0 m pc ls rest) := by
  intro T hT X
  obtain ⟨t, a1, b1⟩ := k T hT X
  refine ⟨t, ?_, b1⟩
  obtain ⟨kk, cf, i, a', hk, hcf, hcp, -, hr, hev'⟩ := Cond.stringRef_spec hown hZ.1
  cases hZ.2.symm.trans hev'
  obtain ⟨k', hk', he⟩ := X.warmed.alike.2.2 _ _ hk
  have hr' : k'.resolved[index]? = some (some (.string q)) := by
    rcases X.warmed.entry hk hk' index with h | ⟨h, -⟩
    · rw [h]; exact hr
    · rw [hr] at h; cases h
  have hdg' : decode c.code (F0 m pc ls rest).pc = .ok (.ldc_w index, 3) := by rw [hb]; exact hdg
  jvm_step X.here [hexec, hdg', ldc_w.wp_string (e := e) (s := T) (f := F0 m pc ls rest) X.here.top hk' (by rw [he]; exact hcf) hcp hr']
  exact a1
/-- the last of the first c names of errors that NAME k says; -1 if none -/
def erL (F tb : Nat → Nat) (k : Nat) : Nat → Int
  | 0 => -1
  | c + 1 => if isTxK F tb k (c + 1) = true then (c : Int) else erL F tb k c
theorem erL_t {F tb : Nat → Nat} {k c : Nat} (h : isTxK F tb k (c + 1) = true) : erL F tb k (c + 1) = (c : Int) := by
  conv => lhs; unfold erL
  rw [if_pos h]
theorem erL_f {F tb : Nat → Nat} {k c : Nat} (h : isTxK F tb k (c + 1) = false) : erL F tb k (c + 1) = erL F tb k c := by
  conv => lhs; unfold erL
  rw [if_neg (by rw [h]; decide)]
theorem erL_rg (F tb : Nat → Nat) (k : Nat) : ∀ c, -1 ≤ erL F tb k c ∧ erL F tb k c < c := by
  intro c
  induction c with
  | zero => exact ⟨by show (-1 : Int) ≤ -1; omega, by show (-1 : Int) < 0; omega⟩
  | succ c ih =>
    unfold erL
    split <;> omega
/-- rule 16 of the catch at q -/
def ctR (F tb : Nat → Nat) (pc sz : Nat) (na : Nat → Int) (q : Nat) : Option Nat :=
  if ptOk sz na (U2 F q : Int) = true ∧ (U2 F (q + 2) = sz ∨ ptOk sz na (U2 F (q + 2) : Int) = true) ∧ ptOk sz na (U2 F (q + 4) : Int) = true ∧ U2 F q < U2 F (q + 2) then
    (if U2 F (q + 6) = 0 then none else if isE F tb pc (U2 F (q + 6)) 7 = true then (if 0 ≤ erL F tb (e1 F tb (U2 F (q + 6))) 4 then none else some q) else some q) else some q

set_option maxHeartbeats 4000000 in
set_option maxRecDepth 20000 in
theorem c_X12_errorName (l : Launch) (Z : zT) {H : Heap} {t : Int} (k : Nat) (ht : t = (k : Int)) (hk : k < 4) : zP l Z yX12_errorName cX12_errorName 1 (some (.object "java/lang/String")) (rmk 1) [zV t] H (.ref (Z.2.2.1 (k + 1))) := by
  subst ht
  refine zM.introA (own := RX12) ⟨by decide, rfl⟩ (Nat.le_of_ble_eq_true rfl) ?_
  intro p e s m args below meth c Q ls hH C hl hret
  have hS : va_S (fun _ => False) s.heap H [] := by rw [hH]; exact va_S.rf
  have hl : lv_has ls 1 [(0, zN k)] := hl
  refine lv_iload_n C.1 C.2.1 dX12_errorName_0 rfl (lv_at hl 0 rfl) ?_
  refine y_if_ne (tgt := 10) C (a := ((k : Nat) : Int)) dX12_errorName_1 (by decide) (by omega) (fun h1 => ?_) (fun h1 => ?_)
  · refine lv_iload_n C.1 C.2.1 dX12_errorName_10 rfl (lv_at hl 0 rfl) ?_
    refine lv_iconst (v := zI 1) C.1 C.2.1 dX12_errorName_11 (by decide) ?_
    refine y_icmp_ne (tgt := 21) C (a := ((k : Nat) : Int)) (b := 1) dX12_errorName_12 (by decide) (by omega) (fun h12 => ?_) (fun h12 => ?_)
    · refine lv_iload_n C.1 C.2.1 dX12_errorName_21 rfl (lv_at hl 0 rfl) ?_
      refine lv_iconst (v := zI 2) C.1 C.2.1 dX12_errorName_22 (by decide) ?_
      refine y_icmp_ne (tgt := 32) C (a := ((k : Nat) : Int)) (b := 2) dX12_errorName_23 (by decide) (by omega) (fun h23 => ?_) (fun h23 => ?_)
      · refine z_ldcSw C.1 C.2.1 C.2.2.2.1 C.2.2.2.2.2.2.2.2.2.1.2.2.2.2.1 dX12_errorName_32 ?_
        exact hret _ _ _ _ (.ref (Z.2.2.1 4)) hS ⟨by rw [show k + 1 = 4 by omega], rfl⟩ (Or.inr ⟨_, rfl⟩) dX12_errorName_35
      · refine z_ldcSw C.1 C.2.1 C.2.2.2.1 C.2.2.2.2.2.2.2.2.2.1.2.2.2.1 dX12_errorName_26 ?_
        refine lv_goto (tgt := 35) C.1 C.2.1 dX12_errorName_29 (by decide) ?_
        exact hret _ _ _ _ (.ref (Z.2.2.1 3)) hS ⟨by rw [show k + 1 = 3 by omega], rfl⟩ (Or.inr ⟨_, rfl⟩) dX12_errorName_35
    · refine z_ldcSw C.1 C.2.1 C.2.2.2.1 C.2.2.2.2.2.2.2.2.2.1.2.2.1 dX12_errorName_15 ?_
      refine lv_goto (tgt := 35) C.1 C.2.1 dX12_errorName_18 (by decide) ?_
      exact hret _ _ _ _ (.ref (Z.2.2.1 2)) hS ⟨by rw [show k + 1 = 2 by omega], rfl⟩ (Or.inr ⟨_, rfl⟩) dX12_errorName_35
  · refine z_ldcSw C.1 C.2.1 C.2.2.2.1 C.2.2.2.2.2.2.2.2.2.1.2.1 dX12_errorName_4 ?_
    refine lv_goto (tgt := 35) C.1 C.2.1 dX12_errorName_7 (by decide) ?_
    exact hret _ _ _ _ (.ref (Z.2.2.1 1)) hS ⟨by rw [show k + 1 = 1 by omega], rfl⟩ (Or.inr ⟨_, rfl⟩) dX12_errorName_35

set_option maxHeartbeats 4000000 in
set_option maxRecDepth 20000 in
theorem c_X12_caught (l : Launch) (Z : zT) {H : Heap} {o : Nat} {ad : Nat → Nat} {σ : mS} (hM : isM Z H o ad σ) {F : Nat → Nat} {n : Nat} (hB : mSrc σ F n) {cl nf nm fa last : Nat} {tb mt : Nat → Nat} (hL : mLay σ F n tb cl nf nm mt fa last) (hx6 : x6 F tb (U2 F 8) = none) {sz : Nat} {na : Nat → Int} (h33 : σ.1 33 = zI (sz : Int)) (hsz : sz ≤ 1200) (hna : ∀ j, j < sz → σ.2.1 34 j = zI (na j) ∧ -1 ≤ na j ∧ na j ≤ 1200) {t : Int} (q : Nat) (ht : t = (q : Int)) (hq : q + 8 ≤ n) : zX l Z yX12_caught cX12_caught 8 none (rmk 6) [.ref o, zV t] H (mA o ad) 0 0 (fun v H' => v = none ∧ ctR F tb (U2 F 8) sz na q = none ∧ isM Z H' o ad σ) (fun H' => ∃ w9 : Nat, ctR F tb (U2 F 8) sz na q = some w9 ∧ mBrk Z o ad [4, 5] [] σ 16 w9 H') := by
  subst ht
  have hna0 := hna
  have hn := hB.2.2.2
  have hpc := hL.2.1
  have hcl := hL.2.2.2.2.2.1
  have hnf := hL.2.2.2.2.2.2.2.2.1
  have hnm := hL.2.2.2.2.2.2.2.2.2.1
  have hMt := hL.2.2.2.2.2.2.2.2.2.2.1
  have hna := hL.2.2.2.2.2.2.2.2.2.2.2.2.1
  have hfa := hL.2.2.2.2.2.2.2.2.2.2.2.2.2.1
  refine zX.introV (own := RX12) ⟨by decide, rfl⟩ (Nat.le_of_ble_eq_true rfl) ?_
  intro p e s m args below meth c Q ls hH C hl hth hret
  have hS : va_S (mA o ad) s.heap H [] := by rw [hH]; exact va_S.rf
  have hl : lv_has ls 8 [(0, .ref o), (1, zN q)] := hl
  refine lv_aload_n C.1 C.2.1 dX12_caught_0 rfl (lv_at hl 0 rfl) ?_
  refine lv_iload_n C.1 C.2.1 dX12_caught_1 rfl (lv_at hl 1 rfl) ?_
  refine z_readV C (As := [zN q]) (rest := []) (c_X12_two l Z hM hB q rfl (by omega)) hM.1 rfl ⟨⟨zw_27_11, zw_1_5, zw_27_8⟩, zd_X12_two⟩ zw_27_9 zw_27_10 ⟨Nat.le_of_ble_eq_true rfl, Nat.le_of_ble_eq_true rfl⟩ ⟨rfl, rfl⟩ rfl hl.1 rfl (Nat.le_of_ble_eq_true rfl) dX12_caught_2 ⟨Nat.zero_le _, Nat.zero_le _⟩ hS (fun locs hS => ?_)
  have := U2_lt hB.1 q
  refine lv_istore_n (lv' := [(2, zN (U2 F q)), (0, .ref o), (1, zN q)]) C.1 C.2.1 dX12_caught_5 rfl hl (by decide) rfl (fun ls hl => ?_)
  refine lv_aload_n C.1 C.2.1 dX12_caught_6 rfl (lv_at hl 1 rfl) ?_
  refine lv_iload_n C.1 C.2.1 dX12_caught_7 rfl (lv_at hl 2 rfl) ?_
  refine lv_iconst (v := zI 2) C.1 C.2.1 dX12_caught_8 (by decide) ?_
  refine y_iaddN C (a := q) (b := 2) dX12_caught_9 ?_
  refine z_readV C (As := [zN (q + 2)]) (rest := []) (c_X12_two l Z hM hB (q + 2) rfl (by omega)) hM.1 rfl ⟨⟨zw_27_11, zw_1_5, zw_27_8⟩, zd_X12_two⟩ zw_27_9 zw_27_10 ⟨Nat.le_of_ble_eq_true rfl, Nat.le_of_ble_eq_true rfl⟩ ⟨rfl, rfl⟩ rfl hl.1 rfl (Nat.le_of_ble_eq_true rfl) dX12_caught_10 ⟨Nat.zero_le _, Nat.zero_le _⟩ hS (fun locs hS => ?_)
  have := U2_lt hB.1 (q + 2)
  refine lv_istore_n (lv' := [(3, zN (U2 F (q + 2))), (2, zN (U2 F q)), (0, .ref o), (1, zN q)]) C.1 C.2.1 dX12_caught_13 rfl hl (by decide) rfl (fun ls hl => ?_)
  refine lv_aload_n C.1 C.2.1 dX12_caught_14 rfl (lv_at hl 2 rfl) ?_
  refine lv_iload_n C.1 C.2.1 dX12_caught_15 rfl (lv_at hl 3 rfl) ?_
  refine lv_iconst (v := zI 4) C.1 C.2.1 dX12_caught_16 (by decide) ?_
  refine y_iaddN C (a := q) (b := 4) dX12_caught_17 ?_
  refine z_readV C (As := [zN (q + 4)]) (rest := []) (c_X12_two l Z hM hB (q + 4) rfl (by omega)) hM.1 rfl ⟨⟨zw_27_11, zw_1_5, zw_27_8⟩, zd_X12_two⟩ zw_27_9 zw_27_10 ⟨Nat.le_of_ble_eq_true rfl, Nat.le_of_ble_eq_true rfl⟩ ⟨rfl, rfl⟩ rfl hl.1 rfl (Nat.le_of_ble_eq_true rfl) dX12_caught_18 ⟨Nat.zero_le _, Nat.zero_le _⟩ hS (fun locs hS => ?_)
  have := U2_lt hB.1 (q + 4)
  refine lv_istore (lv' := [(4, zN (U2 F (q + 4))), (3, zN (U2 F (q + 2))), (2, zN (U2 F q)), (0, .ref o), (1, zN q)]) C.1 C.2.1 dX12_caught_21 hl (by decide) rfl (fun ls hl => ?_)
  refine lv_aload_n C.1 C.2.1 dX12_caught_23 rfl (lv_at hl 3 rfl) ?_
  refine lv_iload_n C.1 C.2.1 dX12_caught_24 rfl (lv_at hl 4 rfl) ?_
  refine lv_bipush (v := zI 6) C.1 C.2.1 dX12_caught_25 (by decide) ?_
  refine y_iaddN C (a := q) (b := 6) dX12_caught_27 ?_
  refine z_readV C (As := [zN (q + 6)]) (rest := []) (c_X12_two l Z hM hB (q + 6) rfl (by omega)) hM.1 rfl ⟨⟨zw_27_11, zw_1_5, zw_27_8⟩, zd_X12_two⟩ zw_27_9 zw_27_10 ⟨Nat.le_of_ble_eq_true rfl, Nat.le_of_ble_eq_true rfl⟩ ⟨rfl, rfl⟩ rfl hl.1 rfl (Nat.le_of_ble_eq_true rfl) dX12_caught_28 ⟨Nat.zero_le _, Nat.zero_le _⟩ hS (fun locs hS => ?_)
  have := U2_lt hB.1 (q + 6)
  refine lv_istore (lv' := [(5, zN (U2 F (q + 6))), (4, zN (U2 F (q + 4))), (3, zN (U2 F (q + 2))), (2, zN (U2 F q)), (0, .ref o), (1, zN q)]) C.1 C.2.1 dX12_caught_31 hl (by decide) rfl (fun ls hl => ?_)
  refine lv_aload_n C.1 C.2.1 dX12_caught_33 rfl (lv_at hl 4 rfl) ?_
  refine lv_aload_n C.1 C.2.1 dX12_caught_34 rfl (lv_at hl 4 rfl) ?_
  refine lv_iload_n C.1 C.2.1 dX12_caught_35 rfl (lv_at hl 3 rfl) ?_
  refine z_readV C (As := [zN (U2 F q)]) (rest := [.ref o]) (c_X12_isStart l Z hM h33 hsz hna0 ((U2 F q : Nat) : Int) (by omega)) hM.1 rfl ⟨⟨zw_34_21, zw_1_5, zw_34_18⟩, zd_X12_isStart⟩ zw_34_19 zw_34_20 ⟨Nat.le_of_ble_eq_true rfl, Nat.le_of_ble_eq_true rfl⟩ ⟨rfl, rfl⟩ rfl hl.1 rfl (Nat.le_of_ble_eq_true rfl) dX12_caught_36 ⟨Nat.zero_le _, Nat.zero_le _⟩ hS (fun locs hS => ?_)
  refine y_ifb_eq (tgt := 76) C dX12_caught_39 (by decide) (fun h39 => ?_) (fun h39 => ?_)
  · refine lv_iconst (v := zI 0) C.1 C.2.1 dX12_caught_76 (by decide) ?_
    refine lv_bipush (v := zI 16) C.1 C.2.1 dX12_caught_77 (by decide) ?_
    refine lv_iload_n C.1 C.2.1 dX12_caught_79 rfl (lv_at hl 5 rfl) ?_
    refine z_callVX C (As := [zV (bI false), zN 16, zN q]) (rest := []) (c_X12_must l Z hM false (zI 16) (zI ((q : Nat) : Int))) hM.1 rfl ⟨⟨zw_26_16, zw_1_5, zw_26_13⟩, zd_X12_must⟩ zw_26_14 zw_26_15 ⟨Nat.le_of_ble_eq_true rfl, Nat.le_of_ble_eq_true rfl⟩ ⟨rfl, rfl⟩ rfl hl.1 rfl (Nat.le_of_ble_eq_true rfl) dX12_caught_80 ⟨Nat.zero_le _, Nat.zero_le _⟩ hS (fun _ h => h) (fun H9 locs9 q9 ce9 hp9 hS9 _ _ g1 g2 g3 => ?_) (fun v H locs hp hS _ _ => ?_)
    · exact hth _ _ _ _ _ _ _ hS9 (⟨q, (by unfold ctR; rw [if_neg (fun z => absurd (h39.symm.trans z.1) (by decide))]), ⟨_, hp9.2, rfl, rfl, (chg_sx (by decide) (chg_sx (by decide) chg.rf))⟩⟩) g1 g2 g3
    exact absurd hp.1 (by decide)
  · have J58 : (U2 F (q + 2) = sz ∨ ptOk sz na (U2 F (q + 2) : Int) = true) → ∀ (locs : List Loc), va_S (mA o ad) s.heap H locs → W p l e (rmk 6) s m args below meth c H locs 0 0 Q (F0 m 58 ls [.ref o]) := by
      intro j58 locs hS
      refine lv_aload_n C.1 C.2.1 dX12_caught_58 rfl (lv_at hl 4 rfl) ?_
      refine lv_iload C.1 C.2.1 dX12_caught_59 (lv_at hl 1 rfl) ?_
      refine z_readV C (As := [zN (U2 F (q + 4))]) (rest := [.ref o]) (c_X12_isStart l Z hM h33 hsz hna0 ((U2 F (q + 4) : Nat) : Int) (by omega)) hM.1 rfl ⟨⟨zw_34_21, zw_1_5, zw_34_18⟩, zd_X12_isStart⟩ zw_34_19 zw_34_20 ⟨Nat.le_of_ble_eq_true rfl, Nat.le_of_ble_eq_true rfl⟩ ⟨rfl, rfl⟩ rfl hl.1 rfl (Nat.le_of_ble_eq_true rfl) dX12_caught_61 ⟨Nat.zero_le _, Nat.zero_le _⟩ hS (fun locs hS => ?_)
      refine y_ifb_eq (tgt := 76) C dX12_caught_64 (by decide) (fun h64 => ?_) (fun h64 => ?_)
      · refine lv_iconst (v := zI 0) C.1 C.2.1 dX12_caught_76 (by decide) ?_
        refine lv_bipush (v := zI 16) C.1 C.2.1 dX12_caught_77 (by decide) ?_
        refine lv_iload_n C.1 C.2.1 dX12_caught_79 rfl (lv_at hl 5 rfl) ?_
        refine z_callVX C (As := [zV (bI false), zN 16, zN q]) (rest := []) (c_X12_must l Z hM false (zI 16) (zI ((q : Nat) : Int))) hM.1 rfl ⟨⟨zw_26_16, zw_1_5, zw_26_13⟩, zd_X12_must⟩ zw_26_14 zw_26_15 ⟨Nat.le_of_ble_eq_true rfl, Nat.le_of_ble_eq_true rfl⟩ ⟨rfl, rfl⟩ rfl hl.1 rfl (Nat.le_of_ble_eq_true rfl) dX12_caught_80 ⟨Nat.zero_le _, Nat.zero_le _⟩ hS (fun _ h => h) (fun H9 locs9 q9 ce9 hp9 hS9 _ _ g1 g2 g3 => ?_) (fun v H locs hp hS _ _ => ?_)
        · exact hth _ _ _ _ _ _ _ hS9 (⟨q, (by unfold ctR; rw [if_neg (fun z => absurd (h64.symm.trans z.2.2.1) (by decide))]), ⟨_, hp9.2, rfl, rfl, (chg_sx (by decide) (chg_sx (by decide) chg.rf))⟩⟩) g1 g2 g3
        exact absurd hp.1 (by decide)
      · refine lv_iload_n C.1 C.2.1 dX12_caught_67 rfl (lv_at hl 3 rfl) ?_
        refine lv_iload_n C.1 C.2.1 dX12_caught_68 rfl (lv_at hl 2 rfl) ?_
        refine y_icmp_ge (tgt := 76) C (a := ((U2 F q : Nat) : Int)) (b := ((U2 F (q + 2) : Nat) : Int)) dX12_caught_69 (by decide) (by omega) (fun h69 => ?_) (fun h69 => ?_)
        · refine lv_iconst (v := zI 0) C.1 C.2.1 dX12_caught_76 (by decide) ?_
          refine lv_bipush (v := zI 16) C.1 C.2.1 dX12_caught_77 (by decide) ?_
          refine lv_iload_n C.1 C.2.1 dX12_caught_79 rfl (lv_at hl 5 rfl) ?_
          refine z_callVX C (As := [zV (bI false), zN 16, zN q]) (rest := []) (c_X12_must l Z hM false (zI 16) (zI ((q : Nat) : Int))) hM.1 rfl ⟨⟨zw_26_16, zw_1_5, zw_26_13⟩, zd_X12_must⟩ zw_26_14 zw_26_15 ⟨Nat.le_of_ble_eq_true rfl, Nat.le_of_ble_eq_true rfl⟩ ⟨rfl, rfl⟩ rfl hl.1 rfl (Nat.le_of_ble_eq_true rfl) dX12_caught_80 ⟨Nat.zero_le _, Nat.zero_le _⟩ hS (fun _ h => h) (fun H9 locs9 q9 ce9 hp9 hS9 _ _ g1 g2 g3 => ?_) (fun v H locs hp hS _ _ => ?_)
          · exact hth _ _ _ _ _ _ _ hS9 (⟨q, (by unfold ctR; rw [if_neg (fun z => absurd z.2.2.2 (by omega))]), ⟨_, hp9.2, rfl, rfl, (chg_sx (by decide) (chg_sx (by decide) chg.rf))⟩⟩) g1 g2 g3
          exact absurd hp.1 (by decide)
        · have hgood : ptOk sz na (U2 F q : Int) = true ∧ (U2 F (q + 2) = sz ∨ ptOk sz na (U2 F (q + 2) : Int) = true) ∧ ptOk sz na (U2 F (q + 4) : Int) = true ∧ U2 F q < U2 F (q + 2) := And.intro h39 (And.intro j58 (And.intro h64 (show U2 F q < U2 F (q + 2) by omega)))
          refine lv_iconst (v := zI 1) C.1 C.2.1 dX12_caught_72 (by decide) ?_
          refine lv_goto (tgt := 77) C.1 C.2.1 dX12_caught_73 (by decide) ?_
          refine lv_bipush (v := zI 16) C.1 C.2.1 dX12_caught_77 (by decide) ?_
          refine lv_iload_n C.1 C.2.1 dX12_caught_79 rfl (lv_at hl 5 rfl) ?_
          refine z_callVX C (As := [zV (bI true), zN 16, zN q]) (rest := []) (c_X12_must l Z hM true (zI 16) (zI ((q : Nat) : Int))) hM.1 rfl ⟨⟨zw_26_16, zw_1_5, zw_26_13⟩, zd_X12_must⟩ zw_26_14 zw_26_15 ⟨Nat.le_of_ble_eq_true rfl, Nat.le_of_ble_eq_true rfl⟩ ⟨rfl, rfl⟩ rfl hl.1 rfl (Nat.le_of_ble_eq_true rfl) dX12_caught_80 ⟨Nat.zero_le _, Nat.zero_le _⟩ hS (fun _ h => h) (fun H9 locs9 q9 ce9 hp9 hS9 _ _ g1 g2 g3 => ?_) (fun v H locs hp hS _ _ => ?_)
          · exact absurd hp9.1 (by decide)
          obtain ⟨-, rfl, hM⟩ := hp
          refine lv_iconst (v := zI (-1)) C.1 C.2.1 dX12_caught_83 (by decide) ?_
          refine lv_istore (lv' := [(6, zV (-1)), (5, zN (U2 F (q + 6))), (4, zN (U2 F (q + 4))), (3, zN (U2 F (q + 2))), (2, zN (U2 F q)), (0, .ref o), (1, zN q)]) C.1 C.2.1 dX12_caught_84 hl (by decide) rfl (fun ls hl => ?_)
          refine lv_iload C.1 C.2.1 dX12_caught_86 (lv_at hl 1 rfl) ?_
          refine y_if_le (tgt := 161) C (a := ((U2 F (q + 6) : Nat) : Int)) dX12_caught_88 (by decide) (by omega) (fun h88 => ?_) (fun h88 => ?_)
          · exact hret _ _ _ _ hS ⟨rfl, (by unfold ctR; rw [if_pos hgood, if_pos (by omega)]), hM⟩ dX12_caught_161
          · refine lv_aload_n C.1 C.2.1 dX12_caught_91 rfl (lv_at hl 5 rfl) ?_
            refine lv_aload_n C.1 C.2.1 dX12_caught_92 rfl (lv_at hl 5 rfl) ?_
            refine lv_iload C.1 C.2.1 dX12_caught_93 (lv_at hl 1 rfl) ?_
            refine lv_bipush (v := zI 7) C.1 C.2.1 dX12_caught_95 (by decide) ?_
            refine z_readV C (As := [zN (U2 F (q + 6)), zN 7]) (rest := [.ref o]) (c_X12_isEntry l Z hM hB hL (U2 F (q + 6)) 7 rfl (by omega) (by omega)) hM.1 rfl ⟨⟨zw_28_18, zw_1_5, zw_28_15⟩, zd_X12_isEntry⟩ zw_28_16 zw_28_17 ⟨Nat.le_of_ble_eq_true rfl, Nat.le_of_ble_eq_true rfl⟩ ⟨rfl, rfl⟩ rfl hl.1 rfl (Nat.le_of_ble_eq_true rfl) dX12_caught_97 ⟨Nat.zero_le _, Nat.zero_le _⟩ hS (fun locs hS => ?_)
            refine lv_bipush (v := zI 16) C.1 C.2.1 dX12_caught_100 (by decide) ?_
            refine lv_iload_n C.1 C.2.1 dX12_caught_102 rfl (lv_at hl 6 rfl) ?_
            refine z_callVX C (As := [zV (bI (isE F tb (U2 F 8) (U2 F (q + 6)) 7)), zN 16, zN q]) (rest := []) (c_X12_must l Z hM (isE F tb (U2 F 8) (U2 F (q + 6)) 7) (zI 16) (zI ((q : Nat) : Int))) hM.1 rfl ⟨⟨zw_26_16, zw_1_5, zw_26_13⟩, zd_X12_must⟩ zw_26_14 zw_26_15 ⟨Nat.le_of_ble_eq_true rfl, Nat.le_of_ble_eq_true rfl⟩ ⟨rfl, rfl⟩ rfl hl.1 rfl (Nat.le_of_ble_eq_true rfl) dX12_caught_103 ⟨Nat.zero_le _, Nat.zero_le _⟩ hS (fun _ h => h) (fun H9 locs9 q9 ce9 hp9 hS9 _ _ g1 g2 g3 => ?_) (fun v H locs hp hS _ _ => ?_)
            · exact hth _ _ _ _ _ _ _ hS9 (⟨q, (by unfold ctR; rw [if_pos hgood, if_neg (by omega), if_neg (by rw [hp9.1]; decide)]), ⟨_, hp9.2, rfl, rfl, (chg_sx (by decide) (chg_sx (by decide) chg.rf))⟩⟩) g1 g2 g3
            obtain ⟨hb103, rfl, hM⟩ := hp
            obtain ⟨hp1, hp2, hp3⟩ := isE_t hb103
            obtain ⟨ht1, ht2, ht3⟩ := hL.ent (show U2 F (q + 6) < 502 by omega) (by omega)
            have hce := ht3.2.2.2.2.2.2.1 (by omega)
            refine lv_iconst (v := zI 0) C.1 C.2.1 dX12_caught_106 (by decide) ?_
            refine lv_istore (lv' := [(7, zN 0), (6, zV (-1)), (5, zN (U2 F (q + 6))), (4, zN (U2 F (q + 4))), (3, zN (U2 F (q + 2))), (2, zN (U2 F q)), (0, .ref o), (1, zN q)]) C.1 C.2.1 dX12_caught_107 hl (by decide) rfl (fun ls hl => ?_)
            have loop : ∀ (fu : Nat) (j : Nat) (H : Heap) (ls : Array Slot) (locs : List Loc), va_S (mA o ad) s.heap H locs → isM Z H o ad σ → (j + fu = 5 ∧ j ≤ 4) → lv_has ls 8 [(7, zN j), (6, zV (erL F tb (e1 F tb (U2 F (q + 6))) j)), (5, zN (U2 F (q + 6))), (4, zN (U2 F (q + 4))), (3, zN (U2 F (q + 2))), (2, zN (U2 F q)), (0, .ref o), (1, zN q)] → W p l e (rmk 6) s m args below meth c H locs 0 0 Q (F0 m 109 ls []) := by
              intro fu
              induction fu with
              | zero =>
                intro j H ls locs hS hM hi hl
                omega
              | succ fu ih_loop =>
                intro j H ls locs hS hM hi hl
                have her := erL_rg F tb (e1 F tb (U2 F (q + 6))) j
                refine lv_iload C.1 C.2.1 dX12_caught_109 (lv_at hl 0 rfl) ?_
                refine lv_iconst (v := zI 4) C.1 C.2.1 dX12_caught_111 (by decide) ?_
                refine y_icmp_ge (tgt := 144) C (a := ((j : Nat) : Int)) (b := 4) dX12_caught_112 (by decide) (by omega) (fun h112 => ?_) (fun h112 => ?_)
                · refine lv_aload_n C.1 C.2.1 dX12_caught_144 rfl (lv_at hl 6 rfl) ?_
                  refine lv_iload C.1 C.2.1 dX12_caught_145 (lv_at hl 1 rfl) ?_
                  refine y_if_lt (tgt := 154) C (a := erL F tb (e1 F tb (U2 F (q + 6))) j) dX12_caught_147 (by decide) (by omega) (fun h147 => ?_) (fun h147 => ?_)
                  · refine lv_iconst (v := zI 0) C.1 C.2.1 dX12_caught_154 (by decide) ?_
                    refine lv_bipush (v := zI 16) C.1 C.2.1 dX12_caught_155 (by decide) ?_
                    refine lv_iload_n C.1 C.2.1 dX12_caught_157 rfl (lv_at hl 7 rfl) ?_
                    refine z_callVX C (As := [zV (bI false), zN 16, zN q]) (rest := []) (c_X12_must l Z hM false (zI 16) (zI ((q : Nat) : Int))) hM.1 rfl ⟨⟨zw_26_16, zw_1_5, zw_26_13⟩, zd_X12_must⟩ zw_26_14 zw_26_15 ⟨Nat.le_of_ble_eq_true rfl, Nat.le_of_ble_eq_true rfl⟩ ⟨rfl, rfl⟩ rfl hl.1 rfl (Nat.le_of_ble_eq_true rfl) dX12_caught_158 ⟨Nat.zero_le _, Nat.zero_le _⟩ hS (fun _ h => h) (fun H9 locs9 q9 ce9 hp9 hS9 _ _ g1 g2 g3 => ?_) (fun v H locs hp hS _ _ => ?_)
                    · exact hth _ _ _ _ _ _ _ hS9 (⟨q, (by unfold ctR; rw [if_pos hgood, if_neg (by omega), if_pos hb103, if_neg (by rw [show j = 4 by omega] at h147; omega)]), ⟨_, hp9.2, rfl, rfl, (chg_sx (by decide) (chg_sx (by decide) chg.rf))⟩⟩) g1 g2 g3
                    exact absurd hp.1 (by decide)
                  · refine lv_iconst (v := zI 1) C.1 C.2.1 dX12_caught_150 (by decide) ?_
                    refine lv_goto (tgt := 155) C.1 C.2.1 dX12_caught_151 (by decide) ?_
                    refine lv_bipush (v := zI 16) C.1 C.2.1 dX12_caught_155 (by decide) ?_
                    refine lv_iload_n C.1 C.2.1 dX12_caught_157 rfl (lv_at hl 7 rfl) ?_
                    refine z_callVX C (As := [zV (bI true), zN 16, zN q]) (rest := []) (c_X12_must l Z hM true (zI 16) (zI ((q : Nat) : Int))) hM.1 rfl ⟨⟨zw_26_16, zw_1_5, zw_26_13⟩, zd_X12_must⟩ zw_26_14 zw_26_15 ⟨Nat.le_of_ble_eq_true rfl, Nat.le_of_ble_eq_true rfl⟩ ⟨rfl, rfl⟩ rfl hl.1 rfl (Nat.le_of_ble_eq_true rfl) dX12_caught_158 ⟨Nat.zero_le _, Nat.zero_le _⟩ hS (fun _ h => h) (fun H9 locs9 q9 ce9 hp9 hS9 _ _ g1 g2 g3 => ?_) (fun v H locs hp hS _ _ => ?_)
                    · exact absurd hp9.1 (by decide)
                    obtain ⟨-, rfl, hM⟩ := hp
                    exact hret _ _ _ _ hS ⟨rfl, (by unfold ctR; rw [if_pos hgood, if_neg (by omega), if_pos hb103, if_pos (by rw [show j = 4 by omega] at h147; omega)]), hM⟩ dX12_caught_161
                · refine lv_aload_n C.1 C.2.1 dX12_caught_115 rfl (lv_at hl 6 rfl) ?_
                  refine lv_aload_n C.1 C.2.1 dX12_caught_116 rfl (lv_at hl 6 rfl) ?_
                  refine m_get C hM 13 (v := .ref (ad 13)) (by decide) zw_5_0 rfl rfl dX12_caught_117 ?_
                  refine lv_iload C.1 C.2.1 dX12_caught_120 (lv_at hl 2 rfl) ?_
                  refine m_ald C hM 13 (by decide) (U2 F (q + 6)) (t := ((U2 F (q + 6) : Nat) : Int)) rfl (by show _ < 502; omega) dX12_caught_122 ?_
                  refine z_re (y := zI ((e1 F tb (U2 F (q + 6)) : Nat) : Int)) hce.1 ?_
                  refine lv_iload C.1 C.2.1 dX12_caught_123 (lv_at hl 0 rfl) ?_
                  refine z_readS C (As := [zN j]) (rest := [zN (e1 F tb (U2 F (q + 6))), .ref o]) (c_X12_errorName l Z j rfl (by omega)) ⟨⟨zw_35_12, zw_1_5, zw_35_10⟩, zd_X12_errorName⟩ zw_35_11 ⟨Nat.le_of_ble_eq_true rfl, Nat.le_of_ble_eq_true rfl⟩ ⟨rfl, rfl⟩ rfl hl.1 rfl (Nat.le_of_ble_eq_true rfl) dX12_caught_125 ⟨Nat.zero_le _, Nat.zero_le _⟩ hS (fun locs hS => ?_)
                  refine z_readV C (As := [zN (e1 F tb (U2 F (q + 6))), .ref (Z.2.2.1 (j + 1))]) (rest := []) (c_X12_isText l Z hM hB (hL.nm (x6_cls hx6 hb103)) (w := j + 1) (by omega)) hM.1 rfl ⟨⟨zw_31_2, zw_1_5, zw_30_23⟩, zd_X12_isText⟩ zw_31_0 zw_31_1 ⟨Nat.le_of_ble_eq_true rfl, Nat.le_of_ble_eq_true rfl⟩ ⟨rfl, rfl⟩ rfl hl.1 rfl (Nat.le_of_ble_eq_true rfl) dX12_caught_128 ⟨Nat.zero_le _, Nat.zero_le _⟩ hS (fun locs hS => ?_)
                  refine y_ifb_eq (tgt := 138) C dX12_caught_131 (by decide) (fun h131 => ?_) (fun h131 => ?_)
                  · have hl : lv_has ls 8 [(7, zN j), (6, zV (erL F tb (e1 F tb (U2 F (q + 6))) (j + 1))), (5, zN (U2 F (q + 6))), (4, zN (U2 F (q + 4))), (3, zN (U2 F (q + 2))), (2, zN (U2 F q)), (0, .ref o), (1, zN q)] := by rw [show (erL F tb (e1 F tb (U2 F (q + 6))) (j + 1) : Int) = erL F tb (e1 F tb (U2 F (q + 6))) j from erL_f h131]; exact hl
                    refine lv_iinc (v := zI ((j + 1 : Nat) : Int)) (lv' := [(7, zN (j + 1)), (6, zV (erL F tb (e1 F tb (U2 F (q + 6))) (j + 1))), (5, zN (U2 F (q + 6))), (4, zN (U2 F (q + 4))), (3, zN (U2 F (q + 2))), (2, zN (U2 F q)), (0, .ref o), (1, zN q)]) C.1 C.2.1 dX12_caught_138 hl (k := 0) rfl (zI_add _ _) (by decide) rfl (fun ls hl => ?_)
                    refine lv_goto (tgt := 109) C.1 C.2.1 dX12_caught_141 (by decide) ?_
                    exact ih_loop (j + 1) _ ls _ hS hM (by omega) hl
                  · refine lv_iload C.1 C.2.1 dX12_caught_134 (lv_at hl 0 rfl) ?_
                    refine lv_istore (lv' := [(6, zN j), (7, zN j), (5, zN (U2 F (q + 6))), (4, zN (U2 F (q + 4))), (3, zN (U2 F (q + 2))), (2, zN (U2 F q)), (0, .ref o), (1, zN q)]) C.1 C.2.1 dX12_caught_136 hl (by decide) rfl (fun ls hl => ?_)
                    have hl : lv_has ls 8 [(6, zV (erL F tb (e1 F tb (U2 F (q + 6))) (j + 1))), (7, zN j), (5, zN (U2 F (q + 6))), (4, zN (U2 F (q + 4))), (3, zN (U2 F (q + 2))), (2, zN (U2 F q)), (0, .ref o), (1, zN q)] := by rw [show (erL F tb (e1 F tb (U2 F (q + 6))) (j + 1) : Int) = ((j : Nat) : Int) from erL_t h131]; exact hl
                    refine lv_iinc (v := zI ((j + 1 : Nat) : Int)) (lv' := [(7, zN (j + 1)), (6, zV (erL F tb (e1 F tb (U2 F (q + 6))) (j + 1))), (5, zN (U2 F (q + 6))), (4, zN (U2 F (q + 4))), (3, zN (U2 F (q + 2))), (2, zN (U2 F q)), (0, .ref o), (1, zN q)]) C.1 C.2.1 dX12_caught_138 hl (k := 1) rfl (zI_add _ _) (by decide) rfl (fun ls hl => ?_)
                    refine lv_goto (tgt := 109) C.1 C.2.1 dX12_caught_141 (by decide) ?_
                    exact ih_loop (j + 1) _ ls _ hS hM (by omega) hl
            exact loop 5 0 _ ls _ hS hM (by omega) hl
    refine lv_iload_n C.1 C.2.1 dX12_caught_42 rfl (lv_at hl 2 rfl) ?_
    refine lv_aload_n C.1 C.2.1 dX12_caught_43 rfl (lv_at hl 4 rfl) ?_
    refine m_get C hM 33 (v := .int (σ.1 33)) (by decide) zw_31_18 rfl rfl dX12_caught_44 ?_
    refine z_re (y := zI ((sz : Nat) : Int)) h33 ?_
    refine y_icmp_eq (tgt := 58) C (a := ((U2 F (q + 2) : Nat) : Int)) (b := ((sz : Nat) : Int)) dX12_caught_47 (by decide) (by omega) (fun h47 => ?_) (fun h47 => ?_)
    · exact J58 (Or.inl (by omega)) _ hS
    · refine lv_aload_n C.1 C.2.1 dX12_caught_50 rfl (lv_at hl 4 rfl) ?_
      refine lv_iload_n C.1 C.2.1 dX12_caught_51 rfl (lv_at hl 2 rfl) ?_
      refine z_readV C (As := [zN (U2 F (q + 2))]) (rest := [.ref o]) (c_X12_isStart l Z hM h33 hsz hna0 ((U2 F (q + 2) : Nat) : Int) (by omega)) hM.1 rfl ⟨⟨zw_34_21, zw_1_5, zw_34_18⟩, zd_X12_isStart⟩ zw_34_19 zw_34_20 ⟨Nat.le_of_ble_eq_true rfl, Nat.le_of_ble_eq_true rfl⟩ ⟨rfl, rfl⟩ rfl hl.1 rfl (Nat.le_of_ble_eq_true rfl) dX12_caught_52 ⟨Nat.zero_le _, Nat.zero_le _⟩ hS (fun locs hS => ?_)
      refine y_ifb_eq (tgt := 76) C dX12_caught_55 (by decide) (fun h55 => ?_) (fun h55 => ?_)
      · refine lv_iconst (v := zI 0) C.1 C.2.1 dX12_caught_76 (by decide) ?_
        refine lv_bipush (v := zI 16) C.1 C.2.1 dX12_caught_77 (by decide) ?_
        refine lv_iload_n C.1 C.2.1 dX12_caught_79 rfl (lv_at hl 5 rfl) ?_
        refine z_callVX C (As := [zV (bI false), zN 16, zN q]) (rest := []) (c_X12_must l Z hM false (zI 16) (zI ((q : Nat) : Int))) hM.1 rfl ⟨⟨zw_26_16, zw_1_5, zw_26_13⟩, zd_X12_must⟩ zw_26_14 zw_26_15 ⟨Nat.le_of_ble_eq_true rfl, Nat.le_of_ble_eq_true rfl⟩ ⟨rfl, rfl⟩ rfl hl.1 rfl (Nat.le_of_ble_eq_true rfl) dX12_caught_80 ⟨Nat.zero_le _, Nat.zero_le _⟩ hS (fun _ h => h) (fun H9 locs9 q9 ce9 hp9 hS9 _ _ g1 g2 g3 => ?_) (fun v H locs hp hS _ _ => ?_)
        · exact hth _ _ _ _ _ _ _ hS9 (⟨q, (by unfold ctR; rw [if_neg (fun z => z.2.1.elim (fun w => absurd w (by omega)) (fun w => absurd (h55.symm.trans w) (by decide)))]), ⟨_, hp9.2, rfl, rfl, (chg_sx (by decide) (chg_sx (by decide) chg.rf))⟩⟩) g1 g2 g3
        exact absurd hp.1 (by decide)
      · exact J58 (Or.inr h55) _ hS
