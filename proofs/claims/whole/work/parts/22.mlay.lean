/-! the model: layout -/
section ZAL
variable {p : Program} {l : Launch} {e : Env} {R : Room} {s : State} {m : MethodId} {args : Array Value} {below : List Frame} {meth : Method} {c : Code} {H : Heap} {locs : List Loc} {cells slots : Nat} {Q : State → Prop}
variable {Z : zT} {A : Nat → Prop} {cc : ByteArray} {nL : Nat} {ret : Option FieldType} {pc : Nat} {ls : Array Slot} {rest : List Value} {o : Nat} {ad : Nat → Nat} {σ : mS}
theorem m_alen (C : zC Z A p s m args meth c cc nL RX12 ret) (hM : isM Z H o ad σ) (k : Nat) (hk : k ∈ mIdx) (hdg : decode cc pc = .ok (.arraylength, 1))
    (kk : W p l e R s m args below meth c H locs cells slots Q (F0 m (pc + 1) ls (zN (mLen k) :: rest))) : W p l e R s m args below meth c H locs cells slots Q (F0 m pc ls (.ref (ad k) :: rest)) :=
  z_alen C (ti := 1) (hM.2.1 k hk) rfl hdg (by rw [← zI_nat]; exact kk)
end ZAL
theorem xHead_2 {F : Nat → Nat} {n k c : Nat} (h : c = 8 - k) (hk : k < 8) (hn : n ≤ k) : xHead F n c = .error (2, n) := by
  obtain ⟨d, rfl⟩ : ∃ d, c = d + 1 := ⟨7 - k, by omega⟩
  unfold xHead
  rw [if_pos (by omega)]
theorem xHead_1 {F : Nat → Nat} {n k c : Nat} (h : c = 8 - k) (hk : k < 8) (hn : k < n) (hb : F k ≠ hd k) : xHead F n c = .error (1, k) := by
  obtain ⟨d, rfl⟩ : ∃ d, c = d + 1 := ⟨7 - k, by omega⟩
  unfold xHead
  rw [show 7 - d = k by omega, if_neg (by omega), if_neg hb]
theorem xHead_s {F : Nat → Nat} {n k : Nat} (hk : k < 8) (hn : k < n) (hb : F k = hd k) : xHead F n (8 - k) = xHead F n (8 - (k + 1)) := by
  rw [show 8 - k = (7 - k) + 1 by omega, show 8 - (k + 1) = 7 - k by omega]
  conv => lhs; unfold xHead
  rw [show 7 - (7 - k) = k by omega, if_neg (by omega), if_pos hb]
theorem xPool_s {F : Nat → Nat} {n pc fu k q q' : Nat} {tb : Nat → Nat} (hk : k < pc) (h : xEnt F n q = .ok q') : xPool F n pc (fu + 1) k q tb = xPool F n pc fu (if F q = 5 then k + 2 else k + 1) q' (va_up tb k q) := by
  conv => lhs; unfold xPool
  rw [if_pos hk, h]
theorem xPool_e {F : Nat → Nat} {n pc fu k q : Nat} {tb : Nat → Nat} {e : E2} (hk : k < pc) (h : xEnt F n q = .error e) : xPool F n pc (fu + 1) k q tb = .error e := by
  conv => lhs; unfold xPool
  rw [if_pos hk, h]
theorem xPool_x {F : Nat → Nat} {n pc fu k q : Nat} {tb : Nat → Nat} (hk : pc ≤ k) : xPool F n pc fu k q tb = .ok (q, tb) := by
  cases fu with
  | zero => rfl
  | succ fu => unfold xPool; rw [if_neg (by omega)]
theorem ent_off {σ σ' : mS} {F : Nat → Nat} {n k j q : Nat} (h : rowsOff σ σ' k) (hj : j ≠ k) (e : ent σ F n j q) : ent σ' F n j q := by
  obtain ⟨h1, h2, h3, h4, h5⟩ := h j hj
  unfold ent at *
  rw [h1, h2, h3, h4, h5]
  exact e
/-- rows that are the same, as far as one sees -/
theorem ent_same {σ σ' : mS} {F : Nat → Nat} {n j q : Nat} (h1 : σ'.2.1 11 = σ.2.1 11) (h2 : σ'.2.1 12 = σ.2.1 12) (h3 : σ'.2.1 13 = σ.2.1 13) (h4 : σ'.2.1 14 = σ.2.1 14) (h5 : σ'.2.2 = σ.2.2) (e : ent σ F n j q) : ent σ' F n j q := by
  unfold ent at *
  rw [h1, h2, h3, h4, h5]
  exact e
def poolIn (σ : mS) (F : Nat → Nat) (n : Nat) (tb : Nat → Nat) (k : Nat) : Prop := ∀ j, j < 502 → (tb j = 0 ∧ σ.2.1 11 j = zI 0) ∨ (tb j ≠ 0 ∧ j < k ∧ ent σ F n j (tb j))
theorem poolIn_s {σ σ' : mS} {F : Nat → Nat} {n k k' q : Nat} {tb : Nat → Nat} (h : poolIn σ F n tb k) (ho : rowsOff σ σ' k) (he : ent σ' F n k q) (hq : q ≠ 0) (hk : k < k') : poolIn σ' F n (va_up tb k q) k' := by
  intro j hj
  by_cases e : j = k
  · subst e
    rw [va_up_self]
    exact Or.inr ⟨hq, hk, he⟩
  · rw [va_up_ne _ _ e]
    rcases h j hj with ⟨g1, g2⟩ | ⟨g1, g2, g3⟩
    · exact Or.inl ⟨g1, (ho j e).1.trans g2⟩
    · exact Or.inr ⟨g1, by omega, ent_off ho e g3⟩
theorem poolIn_same {σ σ' : mS} {F : Nat → Nat} {n k : Nat} {tb : Nat → Nat} (h : poolIn σ F n tb k) (h1 : σ'.2.1 11 = σ.2.1 11) (h2 : σ'.2.1 12 = σ.2.1 12) (h3 : σ'.2.1 13 = σ.2.1 13) (h4 : σ'.2.1 14 = σ.2.1 14) (h5 : σ'.2.2 = σ.2.2) : poolIn σ' F n tb k := by
  intro j hj
  rcases h j hj with ⟨g1, g2⟩ | ⟨g1, g2, g3⟩
  · exact Or.inl ⟨g1, by rw [h1]; exact g2⟩
  · exact Or.inr ⟨g1, g2, ent_same h1 h2 h3 h4 h5 g3⟩
/-- the model after layout: what it holds of the file -/
def mLay (σ : mS) (F : Nat → Nat) (n : Nat) (tb : Nat → Nat) (cl nf nm : Nat) (mt : Nat → Nat) (fa last : Nat) : Prop :=
  σ.1 10 = zI (U2 F 8 : Int) ∧ (1 ≤ U2 F 8 ∧ U2 F 8 ≤ 500) ∧ tb 0 = 0 ∧ (∃ k, poolIn σ F n tb k) ∧ σ.1 16 = zI (cl : Int) ∧ cl + 8 ≤ n ∧ σ.1 17 = zI ((nf + nm : Nat) : Int) ∧ σ.1 18 = zI (nf : Int) ∧ nf ≤ 24 ∧ nm ≤ 24 ∧
  (∀ i, i < nf + nm → σ.2.1 20 i = zI (mt i : Int) ∧ mt i + 8 ≤ n ∧ ∀ j, j < U2 F (mt i + 6) → σ.2.1 22 (abase F mt i + j) = zI (atp F (mt i + 6) j : Int) ∧ σ.2.1 23 (abase F mt i + j) = zI (i : Int) ∧ atIn F n (mt i + 6) j) ∧
  σ.1 21 = zI ((abase F mt (nf + nm) + U2 F fa : Nat) : Int) ∧ abase F mt (nf + nm) + U2 F fa ≤ 2700 ∧ (∀ j, j < U2 F fa → σ.2.1 22 (abase F mt (nf + nm) + j) = zI (atp F fa j : Int) ∧ σ.2.1 23 (abase F mt (nf + nm) + j) = zI (-1) ∧ atIn F n fa j) ∧ fa + 2 ≤ n ∧ σ.1 24 = zI (last : Int) ∧ last ≤ n
theorem xLay3_e {F : Nat → Nat} {n q q2 q3 : Nat} {tb mt : Nat → Nat} {e : E2} (h : xAtts F n q3 = .error e) : xLay3 F n tb q q2 (.ok (q3, mt)) = .error e := by simp only [xLay3, h]
theorem xLay3_ok {F : Nat → Nat} {n q q2 q3 q4 : Nat} {tb mt : Nat → Nat} (h : xAtts F n q3 = .ok q4) : xLay3 F n tb q q2 (.ok (q3, mt)) = .ok (tb, q, U2 F (q + 8), U2 F q2, mt, q3, q4) := by simp only [xLay3, h]
theorem lay_h {F : Nat → Nat} {n : Nat} (hh : xHead F n 8 = .ok ()) : xLay F n = xLay0 F n := by unfold xLay; rw [hh]
theorem lay_p {F : Nat → Nat} {n : Nat} (hh : xHead F n 8 = .ok ()) (h1 : 10 ≤ n) (h2 : 1 ≤ U2 F 8 ∧ U2 F 8 ≤ 500) : xLay F n = xLay1 F n (xPool F n (U2 F 8) 500 1 10 (fun _ => 0)) := by rw [lay_h hh]; unfold xLay0; rw [if_pos h1, if_pos h2]

set_option maxHeartbeats 4000000 in
set_option maxRecDepth 20000 in
theorem c_X12_headByte (l : Launch) (Z : zT) {H : Heap} {t : Int} (k : Nat) (ht : t = (k : Int)) (hk : k < 2147483648) : zP l Z yX12_headByte cX12_headByte 1 (some .int) (rmk 1) [zV t] H (zN (hd k)) := by
  subst ht
  refine zM.introI (own := RX12) ⟨by decide, rfl⟩ (Nat.le_of_ble_eq_true rfl) ?_
  intro p e s m args below meth c Q ls hH C hl hret
  have hS : va_S (fun _ => False) s.heap H [] := by rw [hH]; exact va_S.rf
  have hl : lv_has ls 1 [(0, zN k)] := hl
  refine lv_iload_n C.1 C.2.1 dX12_headByte_0 rfl (lv_at hl 0 rfl) ?_
  refine y_if_ne (tgt := 10) C (a := ((k : Nat) : Int)) dX12_headByte_1 (by decide) (by omega) (fun h1 => ?_) (fun h1 => ?_)
  · refine lv_iload_n C.1 C.2.1 dX12_headByte_10 rfl (lv_at hl 0 rfl) ?_
    refine lv_iconst (v := zI 1) C.1 C.2.1 dX12_headByte_11 (by decide) ?_
    refine y_icmp_ne (tgt := 21) C (a := ((k : Nat) : Int)) (b := 1) dX12_headByte_12 (by decide) (by omega) (fun h12 => ?_) (fun h12 => ?_)
    · refine lv_iload_n C.1 C.2.1 dX12_headByte_21 rfl (lv_at hl 0 rfl) ?_
      refine lv_iconst (v := zI 2) C.1 C.2.1 dX12_headByte_22 (by decide) ?_
      refine y_icmp_ne (tgt := 32) C (a := ((k : Nat) : Int)) (b := 2) dX12_headByte_23 (by decide) (by omega) (fun h23 => ?_) (fun h23 => ?_)
      · refine lv_iload_n C.1 C.2.1 dX12_headByte_32 rfl (lv_at hl 0 rfl) ?_
        refine lv_iconst (v := zI 3) C.1 C.2.1 dX12_headByte_33 (by decide) ?_
        refine y_icmp_ne (tgt := 43) C (a := ((k : Nat) : Int)) (b := 3) dX12_headByte_34 (by decide) (by omega) (fun h34 => ?_) (fun h34 => ?_)
        · refine lv_iload_n C.1 C.2.1 dX12_headByte_43 rfl (lv_at hl 0 rfl) ?_
          refine lv_bipush (v := zI 7) C.1 C.2.1 dX12_headByte_44 (by decide) ?_
          refine y_icmp_ne (tgt := 54) C (a := ((k : Nat) : Int)) (b := 7) dX12_headByte_46 (by decide) (by omega) (fun h46 => ?_) (fun h46 => ?_)
          · refine lv_iconst (v := zI 0) C.1 C.2.1 dX12_headByte_54 (by decide) ?_
            exact hret _ _ _ _ (zI 0) hS ⟨congrArg (fun x : Nat => some (zN x)) (show 0 = hd k from by unfold hd; split <;> first | rfl | omega), rfl⟩ rfl dX12_headByte_55
          · refine lv_bipush (v := zI 49) C.1 C.2.1 dX12_headByte_49 (by decide) ?_
            refine lv_goto (tgt := 55) C.1 C.2.1 dX12_headByte_51 (by decide) ?_
            exact hret _ _ _ _ (zI 49) hS ⟨congrArg (fun x : Nat => some (zN x)) (show 49 = hd k from by rw [show k = 7 by omega]; rfl), rfl⟩ rfl dX12_headByte_55
        · refine lv_sipush (v := zI 190) C.1 C.2.1 dX12_headByte_37 (by decide) ?_
          refine lv_goto (tgt := 55) C.1 C.2.1 dX12_headByte_40 (by decide) ?_
          exact hret _ _ _ _ (zI 190) hS ⟨congrArg (fun x : Nat => some (zN x)) (show 190 = hd k from by rw [show k = 3 by omega]; rfl), rfl⟩ rfl dX12_headByte_55
      · refine lv_sipush (v := zI 186) C.1 C.2.1 dX12_headByte_26 (by decide) ?_
        refine lv_goto (tgt := 55) C.1 C.2.1 dX12_headByte_29 (by decide) ?_
        exact hret _ _ _ _ (zI 186) hS ⟨congrArg (fun x : Nat => some (zN x)) (show 186 = hd k from by rw [show k = 2 by omega]; rfl), rfl⟩ rfl dX12_headByte_55
    · refine lv_sipush (v := zI 254) C.1 C.2.1 dX12_headByte_15 (by decide) ?_
      refine lv_goto (tgt := 55) C.1 C.2.1 dX12_headByte_18 (by decide) ?_
      exact hret _ _ _ _ (zI 254) hS ⟨congrArg (fun x : Nat => some (zN x)) (show 254 = hd k from by rw [show k = 1 by omega]; rfl), rfl⟩ rfl dX12_headByte_55
  · refine lv_sipush (v := zI 202) C.1 C.2.1 dX12_headByte_4 (by decide) ?_
    refine lv_goto (tgt := 55) C.1 C.2.1 dX12_headByte_7 (by decide) ?_
    exact hret _ _ _ _ (zI 202) hS ⟨congrArg (fun x : Nat => some (zN x)) (show 202 = hd k from by rw [show k = 0 by omega]; rfl), rfl⟩ rfl dX12_headByte_55

set_option maxHeartbeats 4000000 in
set_option maxRecDepth 20000 in
theorem c_X12_layout (l : Launch) (Z : zT) {H : Heap} {o : Nat} {ad : Nat → Nat} {σ : mS} (hM : isM Z H o ad σ) {F : Nat → Nat} {n : Nat} (hB : mSrc σ F n) (h8 : σ.1 8 = zI (n : Int)) : zX l Z yX12_layout cX12_layout 2 none (rmk 6) [.ref o] H (mA o ad) 0 0 (fun v H' => v = none ∧ ∃ (σ' : mS) (tb : Nat → Nat) (cl nf nm : Nat) (mt : Nat → Nat) (fa last : Nat), xLay F n = .ok (tb, cl, nf, nm, mt, fa, last) ∧ isM Z H' o ad σ' ∧ chg LX LF σ σ' ∧ mLay σ' F n tb cl nf nm mt fa last) (fun H' => ∃ r w : Nat, xLay F n = .error (r, w) ∧ mBrk Z o ad LX LF σ r w H') := by
  have hB0 := hB
  have h80 := h8
  have hn := hB.2.2.2
  refine zX.introV (own := RX12) ⟨by decide, rfl⟩ (Nat.le_of_ble_eq_true rfl) ?_
  intro p e s m args below meth c Q ls hH C hl hth hret
  have hS : va_S (mA o ad) s.heap H [] := by rw [hH]; exact va_S.rf
  have hl : lv_has ls 2 [(0, .ref o)] := hl
  refine lv_iconst (v := zI 0) C.1 C.2.1 dX12_layout_0 (by decide) ?_
  refine lv_istore_n (lv' := [(1, zN 0), (0, .ref o)]) C.1 C.2.1 dX12_layout_1 rfl hl (by decide) rfl (fun ls hl => ?_)
  have loopA : ∀ (fu : Nat) (k : Nat) (σ1 : mS) (H : Heap) (ls : Array Slot) (locs : List Loc), va_S (mA o ad) s.heap H locs → isM Z H o ad σ1 → (k + fu = 9 ∧ k ≤ 8) → (chg [] [] σ σ1) → (xHead F n (8 - k) = xHead F n 8) → (k ≤ n) → lv_has ls 2 [(1, zN k), (0, .ref o)] → W p l e (rmk 6) s m args below meth c H locs 0 0 Q (F0 m 2 ls []) := by
    intro fu
    induction fu with
    | zero =>
      intro k σ1 H ls locs hS hM hi hc hx hkn hl
      omega
    | succ fu ih =>
      intro k σ1 H ls locs hS hM hi hc hx hkn hl
      have hB := hB0.chg hc (by decide) (by decide)
      have h8 : σ1.1 8 = zI (n : Int) := (hc.1 8 (by decide)).trans h80
      refine lv_iload_n C.1 C.2.1 dX12_layout_2 rfl (lv_at hl 0 rfl) ?_
      refine lv_bipush (v := zI 8) C.1 C.2.1 dX12_layout_3 (by decide) ?_
      refine y_icmp_ge (tgt := 59) C (a := ((k : Nat) : Int)) (b := 8) dX12_layout_5 (by decide) (by omega) (fun h5 => ?_) (fun h5 => ?_)
      · have hh : xHead F n 8 = .ok () := by rw [← hx, show 8 - k = 0 by omega]; rfl
        refine lv_aload_n C.1 C.2.1 dX12_layout_59 rfl (lv_at hl 1 rfl) ?_
        refine lv_bipush (v := zI 8) C.1 C.2.1 dX12_layout_60 (by decide) ?_
        refine m_put C hM 9 (sx σ1 9 (zI 8)) rfl rfl (by decide) zw_26_7 rfl rfl rfl rfl hS dX12_layout_62 (fun H locs hM hS => ?_)
        refine lv_aload_n C.1 C.2.1 dX12_layout_65 rfl (lv_at hl 1 rfl) ?_
        refine lv_aload_n C.1 C.2.1 dX12_layout_66 rfl (lv_at hl 1 rfl) ?_
        refine lv_aload_n C.1 C.2.1 dX12_layout_67 rfl (lv_at hl 1 rfl) ?_
        refine lv_ldc2 (v := zL 2) C.1 C.2.1 C.2.2.2.1 (C.2.2.2.2.1 _ zw_26_8) dX12_layout_68 ?_
        refine z_callVX C (As := [.long (zL 2)]) (rest := [.ref o, .ref o]) (c_X12_over l Z (n := n) (q := 8) (b := 2) hM (rfl) (h8) (by omega) (by omega) (by omega)) hM.1 rfl ⟨⟨zw_27_7, zw_1_5, zw_27_4⟩, zd_X12_over⟩ zw_27_5 zw_27_6 ⟨Nat.le_of_ble_eq_true rfl, Nat.le_of_ble_eq_true rfl⟩ ⟨rfl, rfl⟩ rfl hl.1 rfl (Nat.le_of_ble_eq_true rfl) dX12_layout_71 ⟨Nat.zero_le _, Nat.zero_le _⟩ hS (fun _ h => h) (fun H9 locs9 q9 ce9 hp9 hS9 _ _ g1 g2 g3 => ?_) (fun v H locs hp hS _ _ => ?_)
        · exact hth _ _ _ _ _ _ _ hS9 (⟨2, n, (by rw [lay_h hh]; unfold xLay0; rw [if_neg (by omega)]), ⟨_, hp9.2, rfl, rfl, (chg_sx (by decide) (chg_sx (by decide) (chg_sx (by decide) (hc.mono (by decide) (by decide)))))⟩⟩) g1 g2 g3
        obtain ⟨ho71, rfl, hM⟩ := hp
        refine z_readV C (As := [zN 8]) (rest := [.ref o]) (c_X12_two l Z hM hB 8 rfl (by omega)) hM.1 rfl ⟨⟨zw_27_11, zw_1_5, zw_27_8⟩, zd_X12_two⟩ zw_27_9 zw_27_10 ⟨Nat.le_of_ble_eq_true rfl, Nat.le_of_ble_eq_true rfl⟩ ⟨rfl, rfl⟩ rfl hl.1 rfl (Nat.le_of_ble_eq_true rfl) dX12_layout_74 ⟨Nat.zero_le _, Nat.zero_le _⟩ hS (fun locs hS => ?_)
        have := U2_lt hB.1 8
        refine m_put C hM 10 (sx (sx (sx σ1 9 (zI 8)) 9 (zI ((10 : Nat) : Int))) 10 (zI ((U2 F 8 : Nat) : Int))) rfl rfl (by decide) zw_26_9 rfl rfl rfl rfl hS dX12_layout_77 (fun H locs hM hS => ?_)
        refine lv_aload_n C.1 C.2.1 dX12_layout_80 rfl (lv_at hl 1 rfl) ?_
        refine lv_aload_n C.1 C.2.1 dX12_layout_81 rfl (lv_at hl 1 rfl) ?_
        refine m_get C hM 10 (v := .int ((sx (sx (sx σ1 9 (zI 8)) 9 (zI ((10 : Nat) : Int))) 10 (zI ((U2 F 8 : Nat) : Int))).1 10)) (by decide) zw_26_9 rfl rfl dX12_layout_82 ?_
        refine z_re (y := zI ((U2 F 8 : Nat) : Int)) rfl ?_
        refine lv_iconst (v := zI 1) C.1 C.2.1 dX12_layout_85 (by decide) ?_
        refine y_icmp_lt (tgt := 103) C (a := ((U2 F 8 : Nat) : Int)) (b := 1) dX12_layout_86 (by decide) (by omega) (fun h86 => ?_) (fun h86 => ?_)
        · refine lv_iconst (v := zI 0) C.1 C.2.1 dX12_layout_103 (by decide) ?_
          refine lv_iconst (v := zI 5) C.1 C.2.1 dX12_layout_104 (by decide) ?_
          refine lv_bipush (v := zI 8) C.1 C.2.1 dX12_layout_105 (by decide) ?_
          refine z_callVX C (As := [zV (bI false), zN 5, zN 8]) (rest := []) (c_X12_must l Z hM false (zI 5) (zI 8)) hM.1 rfl ⟨⟨zw_26_16, zw_1_5, zw_26_13⟩, zd_X12_must⟩ zw_26_14 zw_26_15 ⟨Nat.le_of_ble_eq_true rfl, Nat.le_of_ble_eq_true rfl⟩ ⟨rfl, rfl⟩ rfl hl.1 rfl (Nat.le_of_ble_eq_true rfl) dX12_layout_107 ⟨Nat.zero_le _, Nat.zero_le _⟩ hS (fun _ h => h) (fun H9 locs9 q9 ce9 hp9 hS9 _ _ g1 g2 g3 => ?_) (fun v H locs hp hS _ _ => ?_)
          · exact hth _ _ _ _ _ _ _ hS9 (⟨5, 8, (by rw [lay_h hh]; unfold xLay0; rw [if_pos (by omega), if_neg (by omega)]), ⟨_, hp9.2, rfl, rfl, (chg_sx (by decide) (chg_sx (by decide) (chg_sx (by decide) (chg_sx (by decide) (chg_sx (by decide) (hc.mono (by decide) (by decide)))))))⟩⟩) g1 g2 g3
          exact absurd hp.1 (by decide)
        · refine lv_aload_n C.1 C.2.1 dX12_layout_89 rfl (lv_at hl 1 rfl) ?_
          refine m_get C hM 10 (v := .int ((sx (sx (sx σ1 9 (zI 8)) 9 (zI ((10 : Nat) : Int))) 10 (zI ((U2 F 8 : Nat) : Int))).1 10)) (by decide) zw_26_9 rfl rfl dX12_layout_90 ?_
          refine z_re (y := zI ((U2 F 8 : Nat) : Int)) rfl ?_
          refine lv_sipush (v := zI 500) C.1 C.2.1 dX12_layout_93 (by decide) ?_
          refine y_icmp_gt (tgt := 103) C (a := ((U2 F 8 : Nat) : Int)) (b := 500) dX12_layout_96 (by decide) (by omega) (fun h96 => ?_) (fun h96 => ?_)
          · refine lv_iconst (v := zI 0) C.1 C.2.1 dX12_layout_103 (by decide) ?_
            refine lv_iconst (v := zI 5) C.1 C.2.1 dX12_layout_104 (by decide) ?_
            refine lv_bipush (v := zI 8) C.1 C.2.1 dX12_layout_105 (by decide) ?_
            refine z_callVX C (As := [zV (bI false), zN 5, zN 8]) (rest := []) (c_X12_must l Z hM false (zI 5) (zI 8)) hM.1 rfl ⟨⟨zw_26_16, zw_1_5, zw_26_13⟩, zd_X12_must⟩ zw_26_14 zw_26_15 ⟨Nat.le_of_ble_eq_true rfl, Nat.le_of_ble_eq_true rfl⟩ ⟨rfl, rfl⟩ rfl hl.1 rfl (Nat.le_of_ble_eq_true rfl) dX12_layout_107 ⟨Nat.zero_le _, Nat.zero_le _⟩ hS (fun _ h => h) (fun H9 locs9 q9 ce9 hp9 hS9 _ _ g1 g2 g3 => ?_) (fun v H locs hp hS _ _ => ?_)
            · exact hth _ _ _ _ _ _ _ hS9 (⟨5, 8, (by rw [lay_h hh]; unfold xLay0; rw [if_pos (by omega), if_neg (by omega)]), ⟨_, hp9.2, rfl, rfl, (chg_sx (by decide) (chg_sx (by decide) (chg_sx (by decide) (chg_sx (by decide) (chg_sx (by decide) (hc.mono (by decide) (by decide)))))))⟩⟩) g1 g2 g3
            exact absurd hp.1 (by decide)
          · refine lv_iconst (v := zI 1) C.1 C.2.1 dX12_layout_99 (by decide) ?_
            refine lv_goto (tgt := 104) C.1 C.2.1 dX12_layout_100 (by decide) ?_
            refine lv_iconst (v := zI 5) C.1 C.2.1 dX12_layout_104 (by decide) ?_
            refine lv_bipush (v := zI 8) C.1 C.2.1 dX12_layout_105 (by decide) ?_
            refine z_callVX C (As := [zV (bI true), zN 5, zN 8]) (rest := []) (c_X12_must l Z hM true (zI 5) (zI 8)) hM.1 rfl ⟨⟨zw_26_16, zw_1_5, zw_26_13⟩, zd_X12_must⟩ zw_26_14 zw_26_15 ⟨Nat.le_of_ble_eq_true rfl, Nat.le_of_ble_eq_true rfl⟩ ⟨rfl, rfl⟩ rfl hl.1 rfl (Nat.le_of_ble_eq_true rfl) dX12_layout_107 ⟨Nat.zero_le _, Nat.zero_le _⟩ hS (fun _ h => h) (fun H9 locs9 q9 ce9 hp9 hS9 _ _ g1 g2 g3 => ?_) (fun v H locs hp hS _ _ => ?_)
            · exact absurd hp9.1 (by decide)
            obtain ⟨-, rfl, hM⟩ := hp
            have h10n : 10 ≤ n := by omega
            have hpc : 1 ≤ U2 F 8 ∧ U2 F 8 ≤ 500 := by omega
            refine lv_iconst (v := zI 0) C.1 C.2.1 dX12_layout_110 (by decide) ?_
            refine lv_istore_n (lv' := [(1, zN 0), (0, .ref o)]) C.1 C.2.1 dX12_layout_111 rfl hl (by decide) rfl (fun ls hl => ?_)
            have loopB : ∀ (fu : Nat) (k : Nat) (σ1 : mS) (H : Heap) (ls : Array Slot) (locs : List Loc), va_S (mA o ad) s.heap H locs → isM Z H o ad σ1 → (k + fu = 503 ∧ k ≤ 502) → (chg LX LF σ σ1) → (σ1.1 9 = zI 10) → (σ1.1 10 = zI (U2 F 8 : Int)) → (∀ j, j < k → σ1.2.1 11 j = zI 0) → lv_has ls 2 [(1, zN k), (0, .ref o)] → W p l e (rmk 6) s m args below meth c H locs 0 0 Q (F0 m 112 ls []) := by
              intro fu
              induction fu with
              | zero =>
                intro k σ1 H ls locs hS hM hi hc h9 h10 h11 hl
                omega
              | succ fu ih =>
                intro k σ1 H ls locs hS hM hi hc h9 h10 h11 hl
                refine lv_iload_n C.1 C.2.1 dX12_layout_112 rfl (lv_at hl 0 rfl) ?_
                refine lv_aload_n C.1 C.2.1 dX12_layout_113 rfl (lv_at hl 1 rfl) ?_
                refine m_get C hM 11 (v := .ref (ad 11)) (by decide) zw_4_22 rfl rfl dX12_layout_114 ?_
                refine m_alen C hM 11 (by decide) dX12_layout_117 ?_
                refine y_icmp_ge (tgt := 134) C (a := ((k : Nat) : Int)) (b := 502) dX12_layout_118 (by decide) (by omega) (fun h118 => ?_) (fun h118 => ?_)
                · refine lv_iconst (v := zI 1) C.1 C.2.1 dX12_layout_134 (by decide) ?_
                  refine lv_istore_n (lv' := [(1, zN 1), (0, .ref o)]) C.1 C.2.1 dX12_layout_135 rfl hl (by decide) rfl (fun ls hl => ?_)
                  have loopC : ∀ (fu : Nat) (k q pf : Nat) (tb : Nat → Nat) (σ1 : mS) (H : Heap) (ls : Array Slot) (locs : List Loc), va_S (mA o ad) s.heap H locs → isM Z H o ad σ1 → (502 ≤ k + fu ∧ k ≤ 501) → (chg LX LF σ σ1) → (σ1.1 9 = zI (q : Int)) → (σ1.1 10 = zI (U2 F 8 : Int)) → (xPool F n (U2 F 8) pf k q tb = xPool F n (U2 F 8) 500 1 10 (fun _ => 0)) → (501 ≤ pf + k) → (q ≤ n ∧ 10 ≤ q) → (poolIn σ1 F n tb k ∧ tb 0 = 0 ∧ 1 ≤ k) → lv_has ls 2 [(1, zN k), (0, .ref o)] → W p l e (rmk 6) s m args below meth c H locs 0 0 Q (F0 m 136 ls []) := by
                    intro fu
                    induction fu with
                    | zero =>
                      intro k q pf tb σ1 H ls locs hS hM hi hc h9 h10 hx hpf hq hP hl
                      exact absurd hi.1 (by omega)
                    | succ fu ih =>
                      intro k q pf tb σ1 H ls locs hS hM hi hc h9 h10 hx hpf hq hP hl
                      have hB := hB0.chg hc (by decide) (by decide)
                      have h8 : σ1.1 8 = zI (n : Int) := (hc.1 8 (by decide)).trans h80
                      refine lv_iload_n C.1 C.2.1 dX12_layout_136 rfl (lv_at hl 0 rfl) ?_
                      refine lv_aload_n C.1 C.2.1 dX12_layout_137 rfl (lv_at hl 1 rfl) ?_
                      refine m_get C hM 10 (v := .int (σ1.1 10)) (by decide) zw_26_9 rfl rfl dX12_layout_138 ?_
                      refine z_re (y := zI ((U2 F 8 : Nat) : Int)) h10 ?_
                      refine y_icmp_ge (tgt := 170) C (a := ((k : Nat) : Int)) (b := ((U2 F 8 : Nat) : Int)) dX12_layout_141 (by decide) (by omega) (fun h141 => ?_) (fun h141 => ?_)
                      · have hL0 : xLay F n = (if q + 8 ≤ n then xLay2 F n tb q (xMems F n (q + 8) 0 (fun _ => 0)) else .error (2, n)) := by rw [lay_p hh h10n hpc, ← hx, xPool_x (by omega)]; rfl
                        refine lv_aload_n C.1 C.2.1 dX12_layout_170 rfl (lv_at hl 1 rfl) ?_
                        refine lv_aload_n C.1 C.2.1 dX12_layout_171 rfl (lv_at hl 1 rfl) ?_
                        refine lv_ldc2 (v := zL 2) C.1 C.2.1 C.2.2.2.1 (C.2.2.2.2.1 _ zw_26_8) dX12_layout_172 ?_
                        refine z_callVX C (As := [.long (zL 2)]) (rest := [.ref o]) (c_X12_over l Z (n := n) (q := q) (b := 2) hM (h9) (h8) (by omega) (by omega) (by omega)) hM.1 rfl ⟨⟨zw_27_7, zw_1_5, zw_27_4⟩, zd_X12_over⟩ zw_27_5 zw_27_6 ⟨Nat.le_of_ble_eq_true rfl, Nat.le_of_ble_eq_true rfl⟩ ⟨rfl, rfl⟩ rfl hl.1 rfl (Nat.le_of_ble_eq_true rfl) dX12_layout_175 ⟨Nat.zero_le _, Nat.zero_le _⟩ hS (fun _ h => h) (fun H9 locs9 q9 ce9 hp9 hS9 _ _ g1 g2 g3 => ?_) (fun v H locs hp hS _ _ => ?_)
                        · exact hth _ _ _ _ _ _ _ hS9 (⟨2, n, (by rw [hL0, if_neg (by omega)]), ⟨_, hp9.2, rfl, rfl, (chg_sx (by decide) (chg_sx (by decide) hc))⟩⟩) g1 g2 g3
                        obtain ⟨ho175, rfl, hM⟩ := hp
                        refine m_put C hM 16 (sx (sx σ1 9 (zI ((q + 2 : Nat) : Int))) 16 (zI ((q : Nat) : Int))) rfl rfl (by decide) zw_26_10 rfl rfl rfl rfl hS dX12_layout_178 (fun H locs hM hS => ?_)
                        refine lv_aload_n C.1 C.2.1 dX12_layout_181 rfl (lv_at hl 1 rfl) ?_
                        refine lv_ldc2 (v := zL 6) C.1 C.2.1 C.2.2.2.1 (C.2.2.2.2.1 _ zw_26_11) dX12_layout_182 ?_
                        refine z_callVX C (As := [.long (zL 6)]) (rest := []) (c_X12_over l Z (n := n) (q := q + 2) (b := 6) hM (rfl) (h8) (by omega) (by omega) (by omega)) hM.1 rfl ⟨⟨zw_27_7, zw_1_5, zw_27_4⟩, zd_X12_over⟩ zw_27_5 zw_27_6 ⟨Nat.le_of_ble_eq_true rfl, Nat.le_of_ble_eq_true rfl⟩ ⟨rfl, rfl⟩ rfl hl.1 rfl (Nat.le_of_ble_eq_true rfl) dX12_layout_185 ⟨Nat.zero_le _, Nat.zero_le _⟩ hS (fun _ h => h) (fun H9 locs9 q9 ce9 hp9 hS9 _ _ g1 g2 g3 => ?_) (fun v H locs hp hS _ _ => ?_)
                        · exact hth _ _ _ _ _ _ _ hS9 (⟨2, n, (by rw [hL0, if_neg (by omega)]), ⟨_, hp9.2, rfl, rfl, (chg_sx (by decide) (chg_sx (by decide) (chg_sx (by decide) (chg_sx (by decide) hc))))⟩⟩) g1 g2 g3
                        obtain ⟨ho185, rfl, hM⟩ := hp
                        refine lv_pop C.1 C.2.1 dX12_layout_188 rfl ?_
                        have hL := hL0
                        rw [if_pos (by omega)] at hL
                        refine lv_aload_n C.1 C.2.1 dX12_layout_189 rfl (lv_at hl 1 rfl) ?_
                        refine lv_iconst (v := zI 0) C.1 C.2.1 dX12_layout_190 (by decide) ?_
                        refine m_put C hM 17 (sx (sx (sx (sx σ1 9 (zI ((q + 2 : Nat) : Int))) 16 (zI ((q : Nat) : Int))) 9 (zI ((q + 2 + 6 : Nat) : Int))) 17 (zI 0)) rfl rfl (by decide) zw_25_23 rfl rfl rfl rfl hS dX12_layout_191 (fun H locs hM hS => ?_)
                        refine lv_aload_n C.1 C.2.1 dX12_layout_194 rfl (lv_at hl 1 rfl) ?_
                        refine lv_iconst (v := zI 0) C.1 C.2.1 dX12_layout_195 (by decide) ?_
                        refine m_put C hM 21 (sx (sx (sx (sx (sx σ1 9 (zI ((q + 2 : Nat) : Int))) 16 (zI ((q : Nat) : Int))) 9 (zI ((q + 2 + 6 : Nat) : Int))) 17 (zI 0)) 21 (zI 0)) rfl rfl (by decide) zw_26_12 rfl rfl rfl rfl hS dX12_layout_196 (fun H locs hM hS => ?_)
                        refine lv_aload_n C.1 C.2.1 dX12_layout_199 rfl (lv_at hl 1 rfl) ?_
                        refine z_callVX C (As := []) (rest := []) (c_X12_members l Z hM hB (q := q + 8) (mc := 0) (mt := fun _ => 0) (rfl) (h8) (by omega) rfl (by omega) (mAtts_0 rfl) (by show 6 * 0 ≤ _; omega)) hM.1 rfl ⟨⟨zw_28_6, zw_1_5, zw_28_3⟩, zd_X12_members⟩ zw_28_4 zw_28_5 ⟨Nat.le_of_ble_eq_true rfl, Nat.le_of_ble_eq_true rfl⟩ ⟨rfl, rfl⟩ rfl hl.1 rfl (Nat.le_of_ble_eq_true rfl) dX12_layout_200 ⟨Nat.zero_le _, Nat.zero_le _⟩ hS (fun _ h => h) (fun H9 locs9 q9 ce9 hp9 hS9 _ _ g1 g2 g3 => ?_) (fun v H locs hp hS _ _ => ?_)
                        · obtain ⟨r, w, hx9, hb9⟩ := hp9
                          exact hth _ _ _ _ _ _ _ hS9 ⟨r, w, (by rw [hL, hx9]; rfl), (hb9.mono (by decide) (by decide)).tr (chg_sx (by decide) (chg_sx (by decide) (chg_sx (by decide) (chg_sx (by decide) (chg_sx (by decide) hc)))))⟩ g1 g2 g3
                        obtain ⟨rfl, σ2, q2, mt2, hx2, hq2, hq22, hM, h92, h172, hn2, hc2, hA2, h62⟩ := hp
                        have hcA := (show chg LX LF σ σ2 from (show chg LX LF σ _ from (chg_sx (by decide) (chg_sx (by decide) (chg_sx (by decide) (chg_sx (by decide) (chg_sx (by decide) hc)))))).tr (hc2.mono (by decide) (by decide)))
                        have hB := hB0.chg hcA (by decide) (by decide)
                        have h8 : σ2.1 8 = zI (n : Int) := (hcA.1 8 (by decide)).trans h80
                        have hPA : poolIn σ2 F n tb k := poolIn_same hP.1 (hc2.2.1 11 (by decide)) (hc2.2.1 12 (by decide)) (hc2.2.1 13 (by decide)) (hc2.2.1 14 (by decide)) (hc2.2.2 (by decide))
                        have h10A : σ2.1 10 = zI (U2 F 8 : Int) := (hc2.1 10 (by decide)).trans h10
                        have h16A : σ2.1 16 = zI (q : Int) := hc2.1 16 (by decide)
                        rw [Nat.zero_add] at h172 hA2 h62
                        refine lv_aload_n C.1 C.2.1 dX12_layout_203 rfl (lv_at hl 1 rfl) ?_
                        refine lv_aload_n C.1 C.2.1 dX12_layout_204 rfl (lv_at hl 1 rfl) ?_
                        refine m_get C hM 17 (v := .int (σ2.1 17)) (by decide) zw_25_23 rfl rfl dX12_layout_205 ?_
                        refine z_re (y := zI ((U2 F (q + 8) : Nat) : Int)) h172 ?_
                        refine m_put C hM 18 (sx σ2 18 (zI ((U2 F (q + 8) : Nat) : Int))) rfl rfl (by decide) zw_26_0 rfl rfl rfl rfl hS dX12_layout_208 (fun H locs hM hS => ?_)
                        refine lv_aload_n C.1 C.2.1 dX12_layout_211 rfl (lv_at hl 1 rfl) ?_
                        refine z_callVX C (As := []) (rest := []) (c_X12_members l Z hM hB (q := q2) (mc := U2 F (q + 8)) (mt := mt2) (h92) (h8) (by omega) h172 (by omega) (mAtts_keep hA2 rfl rfl rfl rfl) h62) hM.1 rfl ⟨⟨zw_28_6, zw_1_5, zw_28_3⟩, zd_X12_members⟩ zw_28_4 zw_28_5 ⟨Nat.le_of_ble_eq_true rfl, Nat.le_of_ble_eq_true rfl⟩ ⟨rfl, rfl⟩ rfl hl.1 rfl (Nat.le_of_ble_eq_true rfl) dX12_layout_212 ⟨Nat.zero_le _, Nat.zero_le _⟩ hS (fun _ h => h) (fun H9 locs9 q9 ce9 hp9 hS9 _ _ g1 g2 g3 => ?_) (fun v H locs hp hS _ _ => ?_)
                        · obtain ⟨r, w, hx9, hb9⟩ := hp9
                          exact hth _ _ _ _ _ _ _ hS9 ⟨r, w, (by rw [hL, hx2]; show xLay3 F n tb q q2 _ = _; rw [hx9]; rfl), (hb9.mono (by decide) (by decide)).tr (chg_sx (by decide) hcA)⟩ g1 g2 g3
                        obtain ⟨rfl, σ3, q3, mt3, hx3, hq3, hq33, hM, h93, h173, hn3, hc3, hA3, h63⟩ := hp
                        have hcB := (show chg LX LF σ σ3 from (show chg LX LF σ _ from (chg_sx (by decide) hcA)).tr (hc3.mono (by decide) (by decide)))
                        have hB := hB0.chg hcB (by decide) (by decide)
                        have h8 : σ3.1 8 = zI (n : Int) := (hcB.1 8 (by decide)).trans h80
                        have hPB : poolIn σ3 F n tb k := poolIn_same hPA (hc3.2.1 11 (by decide)) (hc3.2.1 12 (by decide)) (hc3.2.1 13 (by decide)) (hc3.2.1 14 (by decide)) (hc3.2.2 (by decide))
                        have h10B : σ3.1 10 = zI (U2 F 8 : Int) := (hc3.1 10 (by decide)).trans h10A
                        have h16B : σ3.1 16 = zI (q : Int) := (hc3.1 16 (by decide)).trans h16A
                        have h18B : σ3.1 18 = zI (U2 F (q + 8) : Int) := hc3.1 18 (by decide)
                        refine lv_aload_n C.1 C.2.1 dX12_layout_215 rfl (lv_at hl 1 rfl) ?_
                        refine lv_iconst (v := zI (-1)) C.1 C.2.1 dX12_layout_216 (by decide) ?_
                        refine z_callVX C (As := [zV (-1)]) (rest := []) (c_X12_attributesOf l Z hM hB (q := q3) (na := abase F mt3 (U2 F (q + 8) + U2 F q2)) (-1) (h93) (h8) (by omega) hA3.1 h63) hM.1 rfl ⟨⟨zw_28_10, zw_1_5, zw_28_7⟩, zd_X12_attributesOf⟩ zw_28_8 zw_28_9 ⟨Nat.le_of_ble_eq_true rfl, Nat.le_of_ble_eq_true rfl⟩ ⟨rfl, rfl⟩ rfl hl.1 rfl (Nat.le_of_ble_eq_true rfl) dX12_layout_217 ⟨Nat.zero_le _, Nat.zero_le _⟩ hS (fun _ h => h) (fun H9 locs9 q9 ce9 hp9 hS9 _ _ g1 g2 g3 => ?_) (fun v H locs hp hS _ _ => ?_)
                        · obtain ⟨r, w, hx9, hb9⟩ := hp9
                          exact hth _ _ _ _ _ _ _ hS9 ⟨r, w, (by rw [hL, hx2]; show xLay3 F n tb q q2 _ = _; rw [hx3]; exact xLay3_e hx9), hb9.tr hcB⟩ g1 g2 g3
                        obtain ⟨rfl, σ4, q4, hx4, hq4, hq44, hM, h94, h214, h64, hc4, hold4, hnew4⟩ := hp
                        refine lv_aload_n C.1 C.2.1 dX12_layout_220 rfl (lv_at hl 1 rfl) ?_
                        refine lv_aload_n C.1 C.2.1 dX12_layout_221 rfl (lv_at hl 1 rfl) ?_
                        refine m_get C hM 9 (v := .int (σ4.1 9)) (by decide) zw_26_7 rfl rfl dX12_layout_222 ?_
                        refine z_re (y := zI ((q4 : Nat) : Int)) h94 ?_
                        refine m_put C hM 24 (sx σ4 24 (zI ((q4 : Nat) : Int))) rfl rfl (by decide) zw_25_22 rfl rfl rfl rfl hS dX12_layout_225 (fun H locs hM hS => ?_)
                        exact hret _ _ _ _ hS ⟨rfl, _, tb, q, U2 F (q + 8), U2 F q2, mt3, q3, q4, (by rw [hL, hx2]; show xLay3 F n tb q q2 _ = _; rw [hx3]; exact xLay3_ok hx4), hM, (chg_sx (by decide) (hcB.tr (hc4.mono (by decide) (by decide)))), ((hc4.1 10 (by decide)).trans h10B), hpc, hP.2.1, ⟨k, poolIn_same hPB (hc4.2.1 11 (by decide)) (hc4.2.1 12 (by decide)) (hc4.2.1 13 (by decide)) (hc4.2.1 14 (by decide)) (hc4.2.2 (by decide))⟩, ((hc4.1 16 (by decide)).trans h16B), by omega, ((hc4.1 17 (by decide)).trans h173), ((hc4.1 18 (by decide)).trans h18B), hn2, hn3, (fun i hi => by obtain ⟨g1, g2, g3⟩ := hA3.2 i hi; refine ⟨(congrFun (hc4.2.1 20 (by decide)) i).trans g1, g2, fun j hj => ?_⟩; obtain ⟨g4, g5, g6⟩ := g3 j hj; obtain ⟨g7, g8⟩ := hold4 _ (abase_lt hi hj); exact ⟨g7.trans g4, g8.trans g5, g6⟩), h214, by omega, hnew4, by omega, rfl, hq4⟩ dX12_layout_228
                      · have hu : pf = (pf - 1) + 1 := by omega
                        refine lv_aload_n C.1 C.2.1 dX12_layout_144 rfl (lv_at hl 1 rfl) ?_
                        refine lv_iload_n C.1 C.2.1 dX12_layout_145 rfl (lv_at hl 0 rfl) ?_
                        refine z_callVX C (As := [zN k]) (rest := []) (c_X12_entry l Z hM hB (k := k) (q := q) (by omega) h9 h8 (by omega)) hM.1 rfl ⟨⟨zw_27_15, zw_1_5, zw_27_12⟩, zd_X12_entry⟩ zw_27_13 zw_27_14 ⟨Nat.le_of_ble_eq_true rfl, Nat.le_of_ble_eq_true rfl⟩ ⟨rfl, rfl⟩ rfl hl.1 rfl (Nat.le_of_ble_eq_true rfl) dX12_layout_146 ⟨Nat.zero_le _, Nat.zero_le _⟩ hS (fun _ h => h) (fun H9 locs9 q9 ce9 hp9 hS9 _ _ g1 g2 g3 => ?_) (fun v H locs hp hS _ _ => ?_)
                        · obtain ⟨r, w, hx9, hb9⟩ := hp9
                          exact hth _ _ _ _ _ _ _ hS9 ⟨r, w, (by rw [lay_p hh h10n hpc, ← hx, hu, xPool_e (by omega) hx9]; rfl), hb9.tr hc⟩ g1 g2 g3
                        obtain ⟨rfl, σ2, q2, hx2, hq2, hq22, hM, h92, hc2, ho2, he2⟩ := hp
                        have hF := hB.1 q
                        refine lv_iload_n C.1 C.2.1 dX12_layout_149 rfl (lv_at hl 0 rfl) ?_
                        refine lv_aload_n C.1 C.2.1 dX12_layout_150 rfl (lv_at hl 1 rfl) ?_
                        refine m_get C hM 11 (v := .ref (ad 11)) (by decide) zw_4_22 rfl rfl dX12_layout_151 ?_
                        refine lv_iload_n C.1 C.2.1 dX12_layout_154 rfl (lv_at hl 0 rfl) ?_
                        refine m_ald C hM 11 (by decide) k (t := ((k : Nat) : Int)) rfl (by show _ < 502; omega) dX12_layout_155 ?_
                        refine z_re (y := zI ((F q : Nat) : Int)) he2.2.1 ?_
                        refine lv_iconst (v := zI 5) C.1 C.2.1 dX12_layout_156 (by decide) ?_
                        refine y_icmp_ne (tgt := 164) C (a := ((F q : Nat) : Int)) (b := 5) dX12_layout_157 (by decide) (by omega) (fun h157 => ?_) (fun h157 => ?_)
                        · refine lv_iconst (v := zI 1) C.1 C.2.1 dX12_layout_164 (by decide) ?_
                          refine y_iaddN C (a := k) (b := 1) dX12_layout_165 ?_
                          refine lv_istore_n (lv' := [(1, zN (k + 1)), (0, .ref o)]) C.1 C.2.1 dX12_layout_166 rfl hl (by decide) rfl (fun ls hl => ?_)
                          refine lv_goto (tgt := 136) C.1 C.2.1 dX12_layout_167 (by decide) ?_
                          exact ih (k + 1) q2 (pf - 1) (va_up tb k q) _ _ ls _ hS hM (by omega) (hc.tr (hc2.mono (by decide) (fun _ h => h))) h92 ((hc2.1 10 (by decide)).trans h10) (by rw [← hx, hu, xPool_s (by omega) hx2, if_neg (by omega)]; rfl) (by omega) (by omega) ⟨poolIn_s hP.1 ho2 he2 (by omega) (by omega), (va_up_ne _ _ (by omega)).trans hP.2.1, by omega⟩ hl
                        · refine lv_iconst (v := zI 2) C.1 C.2.1 dX12_layout_160 (by decide) ?_
                          refine lv_goto (tgt := 165) C.1 C.2.1 dX12_layout_161 (by decide) ?_
                          refine y_iaddN C (a := k) (b := 2) dX12_layout_165 ?_
                          refine lv_istore_n (lv' := [(1, zN (k + 2)), (0, .ref o)]) C.1 C.2.1 dX12_layout_166 rfl hl (by decide) rfl (fun ls hl => ?_)
                          refine lv_goto (tgt := 136) C.1 C.2.1 dX12_layout_167 (by decide) ?_
                          exact ih (k + 2) q2 (pf - 1) (va_up tb k q) _ _ ls _ hS hM (by omega) (hc.tr (hc2.mono (by decide) (fun _ h => h))) h92 ((hc2.1 10 (by decide)).trans h10) (by rw [← hx, hu, xPool_s (by omega) hx2, if_pos (by omega)]; rfl) (by omega) (by omega) ⟨poolIn_s hP.1 ho2 he2 (by omega) (by omega), (va_up_ne _ _ (by omega)).trans hP.2.1, by omega⟩ hl
                  exact loopC 501 1 10 500 (fun _ => 0) _ _ ls _ hS hM (by omega) hc h9 h10 rfl (by omega) (by omega) ⟨fun j hj => Or.inl ⟨rfl, h11 j (by omega)⟩, rfl, Nat.le_refl _⟩ hl
                · refine lv_aload_n C.1 C.2.1 dX12_layout_121 rfl (lv_at hl 1 rfl) ?_
                  refine m_get C hM 11 (v := .ref (ad 11)) (by decide) zw_4_22 rfl rfl dX12_layout_122 ?_
                  refine lv_iload_n C.1 C.2.1 dX12_layout_125 rfl (lv_at hl 0 rfl) ?_
                  refine lv_iconst (v := zI 0) C.1 C.2.1 dX12_layout_126 (by decide) ?_
                  refine m_ast C hM 11 (by decide) k (t := ((k : Nat) : Int)) rfl (by show _ < 502; omega) hS dX12_layout_127 (fun H locs hM hS => ?_)
                  refine lv_iinc (v := zI ((k + 1 : Nat) : Int)) (lv' := [(1, zN (k + 1)), (0, .ref o)]) C.1 C.2.1 dX12_layout_128 hl (k := 0) rfl (zI_add _ _) (by decide) rfl (fun ls hl => ?_)
                  refine lv_goto (tgt := 112) C.1 C.2.1 dX12_layout_131 (by decide) ?_
                  exact ih (k + 1) _ _ ls _ hS hM (by omega) (chg_sf (by decide) hc) h9 h10 (fun j hj => by rcases Nat.lt_or_ge j k with h | h <;> first | exact (upd_ne (by omega)).trans (h11 j h) | (rw [show j = k by omega]; exact upd_2)) hl
            exact loopB 503 0 _ _ ls _ hS hM (by omega) (chg_sx (by decide) (chg_sx (by decide) (chg_sx (by decide) (hc.mono (by decide) (by decide))))) rfl rfl (fun j h => absurd h (by omega)) hl
      · refine lv_aload_n C.1 C.2.1 dX12_layout_8 rfl (lv_at hl 1 rfl) ?_
        refine lv_iload_n C.1 C.2.1 dX12_layout_9 rfl (lv_at hl 0 rfl) ?_
        refine lv_aload_n C.1 C.2.1 dX12_layout_10 rfl (lv_at hl 1 rfl) ?_
        refine m_get C hM 8 (v := .int (σ1.1 8)) (by decide) zw_25_15 rfl rfl dX12_layout_11 ?_
        refine z_re (y := zI ((n : Nat) : Int)) h8 ?_
        refine y_icmp_ge (tgt := 21) C (a := ((k : Nat) : Int)) (b := ((n : Nat) : Int)) dX12_layout_14 (by decide) (by omega) (fun h14 => ?_) (fun h14 => ?_)
        · refine lv_iconst (v := zI 0) C.1 C.2.1 dX12_layout_21 (by decide) ?_
          refine lv_iconst (v := zI 2) C.1 C.2.1 dX12_layout_22 (by decide) ?_
          refine lv_aload_n C.1 C.2.1 dX12_layout_23 rfl (lv_at hl 1 rfl) ?_
          refine m_get C hM 8 (v := .int (σ1.1 8)) (by decide) zw_25_15 rfl rfl dX12_layout_24 ?_
          refine z_re (y := zI ((n : Nat) : Int)) h8 ?_
          refine z_callVX C (As := [zV (bI false), zN 2, zN n]) (rest := []) (c_X12_must l Z hM false (zI 2) (zI ((n : Nat) : Int))) hM.1 rfl ⟨⟨zw_26_16, zw_1_5, zw_26_13⟩, zd_X12_must⟩ zw_26_14 zw_26_15 ⟨Nat.le_of_ble_eq_true rfl, Nat.le_of_ble_eq_true rfl⟩ ⟨rfl, rfl⟩ rfl hl.1 rfl (Nat.le_of_ble_eq_true rfl) dX12_layout_27 ⟨Nat.zero_le _, Nat.zero_le _⟩ hS (fun _ h => h) (fun H9 locs9 q9 ce9 hp9 hS9 _ _ g1 g2 g3 => ?_) (fun v H locs hp hS _ _ => ?_)
          · exact hth _ _ _ _ _ _ _ hS9 (⟨2, n, (by unfold xLay; rw [← hx, xHead_2 (k := k) rfl (by omega) (by omega)]), ⟨_, hp9.2, rfl, rfl, (chg_sx (by decide) (chg_sx (by decide) (hc.mono (by decide) (by decide))))⟩⟩) g1 g2 g3
          exact absurd hp.1 (by decide)
        · refine lv_iconst (v := zI 1) C.1 C.2.1 dX12_layout_17 (by decide) ?_
          refine lv_goto (tgt := 22) C.1 C.2.1 dX12_layout_18 (by decide) ?_
          refine lv_iconst (v := zI 2) C.1 C.2.1 dX12_layout_22 (by decide) ?_
          refine lv_aload_n C.1 C.2.1 dX12_layout_23 rfl (lv_at hl 1 rfl) ?_
          refine m_get C hM 8 (v := .int (σ1.1 8)) (by decide) zw_25_15 rfl rfl dX12_layout_24 ?_
          refine z_re (y := zI ((n : Nat) : Int)) h8 ?_
          refine z_callVX C (As := [zV (bI true), zN 2, zN n]) (rest := []) (c_X12_must l Z hM true (zI 2) (zI ((n : Nat) : Int))) hM.1 rfl ⟨⟨zw_26_16, zw_1_5, zw_26_13⟩, zd_X12_must⟩ zw_26_14 zw_26_15 ⟨Nat.le_of_ble_eq_true rfl, Nat.le_of_ble_eq_true rfl⟩ ⟨rfl, rfl⟩ rfl hl.1 rfl (Nat.le_of_ble_eq_true rfl) dX12_layout_27 ⟨Nat.zero_le _, Nat.zero_le _⟩ hS (fun _ h => h) (fun H9 locs9 q9 ce9 hp9 hS9 _ _ g1 g2 g3 => ?_) (fun v H locs hp hS _ _ => ?_)
          · exact absurd hp9.1 (by decide)
          obtain ⟨-, rfl, hM⟩ := hp
          refine lv_aload_n C.1 C.2.1 dX12_layout_30 rfl (lv_at hl 1 rfl) ?_
          refine lv_aload_n C.1 C.2.1 dX12_layout_31 rfl (lv_at hl 1 rfl) ?_
          refine lv_iload_n C.1 C.2.1 dX12_layout_32 rfl (lv_at hl 0 rfl) ?_
          refine z_readV C (As := [zN k]) (rest := [.ref o]) (c_X12_octet l Z hM hB k rfl (by omega)) hM.1 rfl ⟨⟨zw_27_0, zw_1_5, zw_26_21⟩, zd_X12_octet⟩ zw_26_22 zw_26_23 ⟨Nat.le_of_ble_eq_true rfl, Nat.le_of_ble_eq_true rfl⟩ ⟨rfl, rfl⟩ rfl hl.1 rfl (Nat.le_of_ble_eq_true rfl) dX12_layout_33 ⟨Nat.zero_le _, Nat.zero_le _⟩ hS (fun locs hS => ?_)
          have := hB.1 k
          refine lv_iload_n C.1 C.2.1 dX12_layout_36 rfl (lv_at hl 0 rfl) ?_
          refine z_readS C (As := [zN k]) (rest := [zN (F k), .ref o]) (c_X12_headByte l Z k rfl (by omega)) ⟨⟨zw_27_3, zw_1_5, zw_27_1⟩, zd_X12_headByte⟩ zw_27_2 ⟨Nat.le_of_ble_eq_true rfl, Nat.le_of_ble_eq_true rfl⟩ ⟨rfl, rfl⟩ rfl hl.1 rfl (Nat.le_of_ble_eq_true rfl) dX12_layout_37 ⟨Nat.zero_le _, Nat.zero_le _⟩ hS (fun locs hS => ?_)
          have hd9 : hd k < 256 := by unfold hd; split <;> omega
          refine y_icmp_ne (tgt := 47) C (a := ((F k : Nat) : Int)) (b := ((hd k : Nat) : Int)) dX12_layout_40 (by decide) (by omega) (fun h40 => ?_) (fun h40 => ?_)
          · refine lv_iconst (v := zI 0) C.1 C.2.1 dX12_layout_47 (by decide) ?_
            refine lv_iconst (v := zI 1) C.1 C.2.1 dX12_layout_48 (by decide) ?_
            refine lv_iload_n C.1 C.2.1 dX12_layout_49 rfl (lv_at hl 0 rfl) ?_
            refine z_callVX C (As := [zV (bI false), zN 1, zN k]) (rest := []) (c_X12_must l Z hM false (zI 1) (zI ((k : Nat) : Int))) hM.1 rfl ⟨⟨zw_26_16, zw_1_5, zw_26_13⟩, zd_X12_must⟩ zw_26_14 zw_26_15 ⟨Nat.le_of_ble_eq_true rfl, Nat.le_of_ble_eq_true rfl⟩ ⟨rfl, rfl⟩ rfl hl.1 rfl (Nat.le_of_ble_eq_true rfl) dX12_layout_50 ⟨Nat.zero_le _, Nat.zero_le _⟩ hS (fun _ h => h) (fun H9 locs9 q9 ce9 hp9 hS9 _ _ g1 g2 g3 => ?_) (fun v H locs hp hS _ _ => ?_)
            · exact hth _ _ _ _ _ _ _ hS9 (⟨1, k, (by unfold xLay; rw [← hx, xHead_1 (k := k) rfl (by omega) (by omega) (by omega)]), ⟨_, hp9.2, rfl, rfl, (chg_sx (by decide) (chg_sx (by decide) (hc.mono (by decide) (by decide))))⟩⟩) g1 g2 g3
            exact absurd hp.1 (by decide)
          · refine lv_iconst (v := zI 1) C.1 C.2.1 dX12_layout_43 (by decide) ?_
            refine lv_goto (tgt := 48) C.1 C.2.1 dX12_layout_44 (by decide) ?_
            refine lv_iconst (v := zI 1) C.1 C.2.1 dX12_layout_48 (by decide) ?_
            refine lv_iload_n C.1 C.2.1 dX12_layout_49 rfl (lv_at hl 0 rfl) ?_
            refine z_callVX C (As := [zV (bI true), zN 1, zN k]) (rest := []) (c_X12_must l Z hM true (zI 1) (zI ((k : Nat) : Int))) hM.1 rfl ⟨⟨zw_26_16, zw_1_5, zw_26_13⟩, zd_X12_must⟩ zw_26_14 zw_26_15 ⟨Nat.le_of_ble_eq_true rfl, Nat.le_of_ble_eq_true rfl⟩ ⟨rfl, rfl⟩ rfl hl.1 rfl (Nat.le_of_ble_eq_true rfl) dX12_layout_50 ⟨Nat.zero_le _, Nat.zero_le _⟩ hS (fun _ h => h) (fun H9 locs9 q9 ce9 hp9 hS9 _ _ g1 g2 g3 => ?_) (fun v H locs hp hS _ _ => ?_)
            · exact absurd hp9.1 (by decide)
            obtain ⟨-, rfl, hM⟩ := hp
            refine lv_iinc (v := zI ((k + 1 : Nat) : Int)) (lv' := [(1, zN (k + 1)), (0, .ref o)]) C.1 C.2.1 dX12_layout_53 hl (k := 0) rfl (zI_add _ _) (by decide) rfl (fun ls hl => ?_)
            refine lv_goto (tgt := 2) C.1 C.2.1 dX12_layout_56 (by decide) ?_
            exact ih (k + 1) _ _ ls _ hS hM (by omega) hc (by rw [← hx]; exact (xHead_s (by omega) (by omega) (by omega)).symm) (by omega) hl
  exact loopA 9 0 _ _ ls _ hS hM (by omega) chg.rf rfl (by omega) hl
