/-! the model: entry, members, layout -/
theorem shl32 (x : Int64) : (x <<< ((zI 32).toInt64 &&& 63)).toInt32 = 0 := by
  rw [show ((zI 32).toInt64 &&& 63) = 32 from by decide]
  apply Int32.toBitVec_inj.1
  rw [Int64.toBitVec_toInt32, Int64.toBitVec_shiftLeft, show ((32 : Int64).toBitVec.smod 64) = 32#64 from by decide, BitVec.signExtend_eq_setWidth_of_le _ (by decide)]
  apply BitVec.eq_of_getLsbD_eq
  intro i hi
  simp [hi]
theorem worth_lo (x : Int64) (b : Int) : ((x <<< ((zI 32).toInt64 &&& 63)) ||| (zL b &&& zL 4294967295)).toInt32 = zI b := by
  rw [Int64.toInt32_or, shl32, Int64.toInt32_and, zL_i, show (zL 4294967295).toInt32 = -1 from by decide]
  simp
theorem bv_hi (x y : BitVec 64) : (BitVec.sshiftRight ((x <<< 32) ||| (y &&& BitVec.ofNat 64 (2 ^ 32 - 1))) 32).signExtend 32 = x.setWidth 32 := by
  rw [BitVec.signExtend_eq_setWidth_of_le _ (by decide)]
  apply BitVec.eq_of_getLsbD_eq
  intro i hi
  rw [BitVec.getLsbD_setWidth, BitVec.getLsbD_setWidth, BitVec.getLsbD_sshiftRight]
  have h1 : ¬ (64 ≤ i) := by omega
  have h2 : 32 + i < 64 := by omega
  rw [if_pos h2, BitVec.getLsbD_or, BitVec.getLsbD_and, BitVec.getLsbD_shiftLeft, BitVec.getLsbD_ofNat, Nat.testBit_two_pow_sub_one]
  have h3 : ¬ (32 + i < 32) := by omega
  have h4 : 32 + i - 32 = i := by omega
  simp [hi, h1, h2, h3, h4]
theorem worth_hi (a b : Int) : (((zL a <<< ((zI 32).toInt64 &&& 63)) ||| (zL b &&& zL 4294967295)) >>> ((zI 32).toInt64 &&& 63)).toInt32 = zI a := by
  have h := zL_i a
  rw [← h]
  apply Int32.toBitVec_inj.1
  rw [Int64.toBitVec_toInt32 (zL a), BitVec.signExtend_eq_setWidth_of_le _ (by decide)]
  exact bv_hi (BitVec.ofInt 64 a) (BitVec.ofInt 64 b)
theorem land_u {a : Int} {u : Nat} (hu : u < 4294967296) (h : a = u ∨ a = (u : Int) - 4294967296) : zL a &&& zL 4294967295 = zL (u : Int) := by
  apply Int64.toBitVec_inj.1
  show BitVec.ofInt 64 a &&& BitVec.ofInt 64 4294967295 = BitVec.ofInt 64 (u : Int)
  apply BitVec.eq_of_toNat_eq
  rw [BitVec.toNat_and, BitVec.toNat_ofInt, BitVec.toNat_ofInt, BitVec.toNat_ofInt]
  rw [show ((4294967295 : Int) % ((2 ^ 64 : Nat) : Int)).toNat = 2 ^ 32 - 1 from by decide, Nat.and_two_pow_sub_one_eq_mod]
  omega
theorem land_U4 {F : Nat → Nat} (hF : isF F) (q : Nat) : zL (S4 F q) &&& zL 4294967295 = zL (U4 F q : Int) := by
  refine land_u (U4_lt hF q) ?_
  unfold S4
  split
  · exact Or.inl rfl
  · exact Or.inr rfl
section ZTB
variable {p : Program} {l : Launch} {e : Env} {R : Room} {s : State} {m : MethodId} {args : Array Value} {below : List Frame} {meth : Method} {c : Code} {H : Heap} {locs : List Loc} {cells slots : Nat} {Q : State → Prop}
variable {Z : zT} {A : Nat → Prop} {cc : ByteArray} {nL : Nat} {own : String} {ret : Option FieldType} {pc : Nat} {ls : Array Slot} {rest : List Value}
theorem y_tabIn (C : zC Z A p s m args meth c cc nL own ret) {dflt lo hi off : Int} {offs : Array Int} {len tgt : Nat} {t : Int} (v : Int) (he : t = v) (hdg : decode cc pc = .ok (.tableswitch dflt lo hi offs, len)) (h : lo ≤ v ∧ v ≤ hi ∧ -2147483648 ≤ v ∧ v < 2147483648) (ho : offs[(v - lo).toNat]? = some off) (ht : (pc : Int) + off = (tgt : Int))
    (k : W p l e R s m args below meth c H locs cells slots Q (F0 m tgt ls rest)) : W p l e R s m args below meth c H locs cells slots Q (F0 m pc ls (zV t :: rest)) := by
  subst he
  have e1 : (zI t).toInt = t := zI_toInt ⟨h.2.2.1, h.2.2.2⟩
  exact lv_tableIn C.1 C.2.1 hdg (by rw [e1]; omega) (by rw [e1]; omega) (by rw [e1]; exact ho) ht k
theorem y_tabOut (C : zC Z A p s m args meth c cc nL own ret) {dflt lo hi : Int} {offs : Array Int} {len tgt : Nat} {t : Int} (he : t < lo ∨ hi < t) (hr : -2147483648 ≤ t ∧ t < 2147483648) (hdg : decode cc pc = .ok (.tableswitch dflt lo hi offs, len)) (ht : (pc : Int) + dflt = (tgt : Int))
    (k : W p l e R s m args below meth c H locs cells slots Q (F0 m tgt ls rest)) : W p l e R s m args below meth c H locs cells slots Q (F0 m pc ls (zV t :: rest)) :=
  lv_tableOut C.1 C.2.1 hdg (by rw [zI_toInt hr]; exact he) ht k
theorem y_lookIn (C : zC Z A p s m args meth c cc nL own ret) {dflt off : Int} {ps : Array (Int × Int)} {len tgt : Nat} {t : Int} (v : Int) (he : t = v) (hdg : decode cc pc = .ok (.lookupswitch dflt ps, len)) (hr : -2147483648 ≤ v ∧ v < 2147483648) (hp : (ps.toList.zip (ps.toList.drop 1)).all (fun (a, next) => a.1 < next.1) = true) (ho : Op.lookupswitch.offset ps.toList dflt v = off) (ht : (pc : Int) + off = (tgt : Int))
    (k : W p l e R s m args below meth c H locs cells slots Q (F0 m tgt ls rest)) : W p l e R s m args below meth c H locs cells slots Q (F0 m pc ls (zV t :: rest)) := by
  subst he
  exact lv_lookup C.1 C.2.1 hdg hp (by rw [zI_toInt hr]; exact ho) ht k
theorem look_out {d v : Int} : ∀ (l : List (Int × Int)), (∀ q ∈ l, q.1 ≠ v) → Op.lookupswitch.offset l d v = d := by
  intro l
  induction l with
  | nil => intro _; rfl
  | cons a l ih =>
    intro h
    obtain ⟨x, y⟩ := a
    rw [Op.lookupswitch.offset_cons, if_neg (h (x, y) List.mem_cons_self)]
    exact ih (fun q hq => h q (List.mem_cons_of_mem _ hq))
theorem y_lookOut (C : zC Z A p s m args meth c cc nL own ret) {dflt : Int} {ps : Array (Int × Int)} {len tgt : Nat} {t : Int} (hr : -2147483648 ≤ t ∧ t < 2147483648) (hdg : decode cc pc = .ok (.lookupswitch dflt ps, len)) (hp : (ps.toList.zip (ps.toList.drop 1)).all (fun (a, next) => a.1 < next.1) = true) (ho : ∀ q ∈ ps.toList, q.1 ≠ t) (ht : (pc : Int) + dflt = (tgt : Int))
    (k : W p l e R s m args below meth c H locs cells slots Q (F0 m tgt ls rest)) : W p l e R s m args below meth c H locs cells slots Q (F0 m pc ls (zV t :: rest)) :=
  lv_lookup C.1 C.2.1 hdg hp (by rw [zI_toInt hr]; exact look_out _ ho) ht k
end ZTB
theorem xEnt_ok {F : Nat → Nat} {n q L : Nat} (h1 : F q ≠ 1) (hL : entLen (F q) = L) (h0 : L ≠ 0) (h : q + L ≤ n) : xEnt F n q = .ok (q + L) := by
  unfold xEnt
  rw [hL, if_pos (by omega), if_neg h1, if_neg h0, if_pos h]
theorem xEnt_2 {F : Nat → Nat} {n q L : Nat} (h1 : F q ≠ 1) (hL : entLen (F q) = L) (h0 : L ≠ 0) (h : ¬ q + L ≤ n) : xEnt F n q = .error (2, n) := by
  unfold xEnt
  by_cases c : q + 1 ≤ n
  · rw [hL, if_pos c, if_neg h1, if_neg h0, if_neg h]
  · rw [if_neg c]
theorem xEnt_3 {F : Nat → Nat} {n q : Nat} (h1 : F q ≠ 1) (hL : entLen (F q) = 0) (h : q + 1 ≤ n) : xEnt F n q = .error (3, q) := by
  unfold xEnt
  rw [hL, if_pos h, if_neg h1, if_pos rfl]
/-- what the model's pool holds of the entry k, at the place q -/
def ent (σ : mS) (F : Nat → Nat) (n k q : Nat) : Prop := q < n ∧ σ.2.1 11 k = zI (F q : Int) ∧ σ.2.1 12 k = zI (q : Int) ∧
  (F q = 1 → σ.2.1 13 k = zI ((q + 3 : Nat) : Int) ∧ σ.2.1 14 k = zI (U2 F (q + 1) : Int) ∧ q + 3 + U2 F (q + 1) ≤ n ∧ 1 ≤ U2 F (q + 1) ∧ U2 F (q + 1) ≤ 100 ∧ ∀ j, j < U2 F (q + 1) → 33 ≤ F (q + 3 + j) ∧ F (q + 3 + j) ≤ 126) ∧
  (F q = 3 → σ.2.2 k = zL (S4 F (q + 1)) ∧ q + 5 ≤ n) ∧ (F q = 5 → (σ.2.2 k).toInt32 = zI (S4 F (q + 5)) ∧ q + 9 ≤ n ∧ (σ.2.2 k >>> ((zI 32).toInt64 &&& 63)).toInt32 = zI (S4 F (q + 1))) ∧ (F q = 7 → σ.2.1 13 k = zI (U2 F (q + 1) : Int) ∧ q + 3 ≤ n) ∧
  (F q = 9 ∨ F q = 10 ∨ F q = 12 → σ.2.1 13 k = zI (U2 F (q + 1) : Int) ∧ σ.2.1 14 k = zI (U2 F (q + 3) : Int) ∧ q + 5 ≤ n) ∧ (F q = 1 ∨ F q = 3 ∨ F q = 5 ∨ F q = 7 ∨ F q = 9 ∨ F q = 10 ∨ F q = 12)
/-- the pool's rows but row k -/
def rowsOff (σ σ' : mS) (k : Nat) : Prop := ∀ j, j ≠ k → σ'.2.1 11 j = σ.2.1 11 j ∧ σ'.2.1 12 j = σ.2.1 12 j ∧ σ'.2.1 13 j = σ.2.1 13 j ∧ σ'.2.1 14 j = σ.2.1 14 j ∧ σ'.2.2 j = σ.2.2 j

set_option maxHeartbeats 4000000 in
set_option maxRecDepth 20000 in
theorem c_X12_entry (l : Launch) (Z : zT) {H : Heap} {o : Nat} {ad : Nat → Nat} {σ : mS} (hM : isM Z H o ad σ) {F : Nat → Nat} {n : Nat} (hB : mSrc σ F n) {k q : Nat} (hk : k < 502) (h9 : σ.1 9 = zI (q : Int)) (h8 : σ.1 8 = zI (n : Int)) (hq : q ≤ n) : zX l Z yX12_entry cX12_entry 5 none (rmk 5) [.ref o, zN k] H (mA o ad) 0 0 (fun v H' => v = none ∧ ∃ (σ' : mS) (q' : Nat), xEnt F n q = .ok q' ∧ q' ≤ n ∧ q < q' ∧ isM Z H' o ad σ' ∧ σ'.1 9 = zI (q' : Int) ∧ chg [9] LF σ σ' ∧ rowsOff σ σ' k ∧ ent σ' F n k q) (fun H' => ∃ r w : Nat, xEnt F n q = .error (r, w) ∧ mBrk Z o ad LX LF σ r w H') := by
  have hB0 := hB
  have hn := hB.2.2.2
  have hF := hB.1 q
  refine zX.introV (own := RX12) ⟨by decide, rfl⟩ (Nat.le_of_ble_eq_true rfl) ?_
  intro p e s m args below meth c Q ls hH C hl hth hret
  have hS : va_S (mA o ad) s.heap H [] := by rw [hH]; exact va_S.rf
  have hl : lv_has ls 5 [(0, .ref o), (1, zN k)] := hl
  refine lv_aload_n C.1 C.2.1 dX12_entry_0 rfl (lv_at hl 0 rfl) ?_
  refine lv_lconst (v := zL 1) C.1 C.2.1 dX12_entry_1 (by decide) ?_
  refine z_callVX C (As := [.long (zL 1)]) (rest := []) (c_X12_over l Z (n := n) (q := q) (b := 1) hM (h9) (h8) (by omega) (by omega) (by omega)) hM.1 rfl ⟨⟨zw_27_7, zw_1_5, zw_27_4⟩, zd_X12_over⟩ zw_27_5 zw_27_6 ⟨Nat.le_of_ble_eq_true rfl, Nat.le_of_ble_eq_true rfl⟩ ⟨rfl, rfl⟩ rfl hl.1 rfl (Nat.le_of_ble_eq_true rfl) dX12_entry_2 ⟨Nat.zero_le _, Nat.zero_le _⟩ hS (fun _ h => h) (fun H9 locs9 q9 ce9 hp9 hS9 _ _ g1 g2 g3 => ?_) (fun v H locs hp hS _ _ => ?_)
  · exact hth _ _ _ _ _ _ _ hS9 (⟨2, n, (by unfold xEnt; rw [if_neg (by omega)]), ⟨_, hp9.2, rfl, rfl, (chg_sx (by decide) (chg_sx (by decide) chg.rf))⟩⟩) g1 g2 g3
  obtain ⟨ho2, rfl, hM⟩ := hp
  refine lv_istore_n (lv' := [(2, zN q), (0, .ref o), (1, zN k)]) C.1 C.2.1 dX12_entry_5 rfl hl (by decide) rfl (fun ls hl => ?_)
  refine lv_aload_n C.1 C.2.1 dX12_entry_6 rfl (lv_at hl 1 rfl) ?_
  refine m_get C hM 12 (v := .ref (ad 12)) (by decide) zw_4_23 rfl rfl dX12_entry_7 ?_
  refine lv_iload_n C.1 C.2.1 dX12_entry_10 rfl (lv_at hl 2 rfl) ?_
  refine lv_iload_n C.1 C.2.1 dX12_entry_11 rfl (lv_at hl 0 rfl) ?_
  refine m_ast C hM 12 (by decide) k (t := ((k : Nat) : Int)) rfl (by show _ < 502; omega) hS dX12_entry_12 (fun H locs hM hS => ?_)
  refine lv_aload_n C.1 C.2.1 dX12_entry_13 rfl (lv_at hl 1 rfl) ?_
  refine lv_iload_n C.1 C.2.1 dX12_entry_14 rfl (lv_at hl 0 rfl) ?_
  refine z_readV C (As := [zN q]) (rest := []) (c_X12_octet l Z hM hB q rfl (by omega)) hM.1 rfl ⟨⟨zw_27_0, zw_1_5, zw_26_21⟩, zd_X12_octet⟩ zw_26_22 zw_26_23 ⟨Nat.le_of_ble_eq_true rfl, Nat.le_of_ble_eq_true rfl⟩ ⟨rfl, rfl⟩ rfl hl.1 rfl (Nat.le_of_ble_eq_true rfl) dX12_entry_15 ⟨Nat.zero_le _, Nat.zero_le _⟩ hS (fun locs hS => ?_)
  have := hB.1 q
  refine lv_istore_n (lv' := [(3, zN (F q)), (2, zN q), (0, .ref o), (1, zN k)]) C.1 C.2.1 dX12_entry_18 rfl hl (by decide) rfl (fun ls hl => ?_)
  refine lv_iload_n C.1 C.2.1 dX12_entry_19 rfl (lv_at hl 0 rfl) ?_
  rcases (show ((F q : Nat) : Int) = 1 ∨ ((F q : Nat) : Int) = 2 ∨ ((F q : Nat) : Int) = 3 ∨ ((F q : Nat) : Int) = 4 ∨ ((F q : Nat) : Int) = 5 ∨ ((F q : Nat) : Int) = 6 ∨ ((F q : Nat) : Int) = 7 ∨ ((F q : Nat) : Int) = 8 ∨ ((F q : Nat) : Int) = 9 ∨ ((F q : Nat) : Int) = 10 ∨ ((F q : Nat) : Int) = 11 ∨ ((F q : Nat) : Int) = 12 ∨ (((F q : Nat) : Int) < 1 ∨ 12 < ((F q : Nat) : Int)) by omega) with h20 | h20 | h20 | h20 | h20 | h20 | h20 | h20 | h20 | h20 | h20 | h20 | h20
  · refine y_tabIn C 1 h20 dX12_entry_20 (by decide) rfl (tgt := 84) (by decide) ?_
    refine lv_aload_n C.1 C.2.1 dX12_entry_84 rfl (lv_at hl 2 rfl) ?_
    refine lv_iload_n C.1 C.2.1 dX12_entry_85 rfl (lv_at hl 3 rfl) ?_
    refine lv_iload_n C.1 C.2.1 dX12_entry_86 rfl (lv_at hl 1 rfl) ?_
    refine z_callVX C (As := [zN k, zN q]) (rest := []) (c_X12_nameEntry l Z (n := n) (k := k) (t := q) hM hB hk (rfl) (h8) (by omega)) hM.1 rfl ⟨⟨zw_27_22, zw_1_5, zw_27_19⟩, zd_X12_nameEntry⟩ zw_27_20 zw_27_21 ⟨Nat.le_of_ble_eq_true rfl, Nat.le_of_ble_eq_true rfl⟩ ⟨rfl, rfl⟩ rfl hl.1 rfl (Nat.le_of_ble_eq_true rfl) dX12_entry_87 ⟨Nat.zero_le _, Nat.zero_le _⟩ hS (fun _ h => h) (fun H9 locs9 q9 ce9 hp9 hS9 _ _ g1 g2 g3 => ?_) (fun v H locs hp hS _ _ => ?_)
    · obtain ⟨r, w, hx, hb⟩ := hp9
      exact hth _ _ _ _ _ _ _ hS9 ⟨r, w, (by unfold xEnt; rw [if_pos (by omega), if_pos (by omega)]; exact hx), hb.tr (chg_sf (by decide) (chg_sx (by decide) chg.rf))⟩ g1 g2 g3
    obtain ⟨rfl, σ1, q1, hx, hM, h91, hc, h13, h14, hq1, hq2, hu1, hu2, hlt⟩ := hp
    refine lv_goto (tgt := 220) C.1 C.2.1 dX12_entry_90 (by decide) ?_
    refine lv_aload_n C.1 C.2.1 dX12_entry_220 rfl (lv_at hl 2 rfl) ?_
    refine m_get C hM 11 (v := .ref (ad 11)) (by decide) zw_4_22 rfl rfl dX12_entry_221 ?_
    refine lv_iload_n C.1 C.2.1 dX12_entry_224 rfl (lv_at hl 3 rfl) ?_
    refine lv_iload_n C.1 C.2.1 dX12_entry_225 rfl (lv_at hl 0 rfl) ?_
    refine m_ast C hM 11 (by decide) k (t := ((k : Nat) : Int)) rfl (by show _ < 502; omega) hS dX12_entry_226 (fun H locs hM hS => ?_)
    exact hret _ _ _ _ hS ⟨rfl, _, q1, (by unfold xEnt; rw [if_pos (by omega), if_pos (by omega)]; exact hx), (by omega), (by omega), hM, h91, (chg_sf (by decide) (chg.tr (chg_sf (by decide) (chg_sx (by decide) chg.rf)) (hc.mono (by decide) (by decide)))), (fun j hj => ⟨by show upd _ k _ j = _; rw [upd_ne hj]; exact congrFun (hc.2.1 11 (by decide)) j, by show σ1.2.1 12 j = _; rw [hc.2.1 12 (by decide)]; exact upd_ne hj, by show σ1.2.1 13 j = _; rw [h13]; exact upd_ne hj, by show σ1.2.1 14 j = _; rw [h14]; exact upd_ne hj, by show σ1.2.2 j = _; rw [hc.2.2 (by decide)]; rfl⟩), ⟨by omega, pk_us, (by show σ1.2.1 12 k = _; rw [hc.2.1 12 (by decide)]; exact pk_us), fun _ => ⟨by show σ1.2.1 13 k = _; rw [h13]; exact pk_us, by show σ1.2.1 14 k = _; rw [h14]; exact pk_us, by omega, hu1, hu2, hlt⟩, (fun z => absurd z (by omega)), (fun z => absurd z (by omega)), (fun z => absurd z (by omega)), (fun z => absurd z (by omega)), by omega⟩⟩ dX12_entry_227
  · refine y_tabIn C 2 h20 dX12_entry_20 (by decide) rfl (tgt := 213) (by decide) ?_
    refine lv_aload_n C.1 C.2.1 dX12_entry_213 rfl (lv_at hl 2 rfl) ?_
    refine lv_iconst (v := zI 3) C.1 C.2.1 dX12_entry_214 (by decide) ?_
    refine lv_iload_n C.1 C.2.1 dX12_entry_215 rfl (lv_at hl 1 rfl) ?_
    refine z_callV C (As := [zN 3, zN q]) (rest := []) (c_X12_broken l Z hM (zI 3) (zI ((q : Nat) : Int))) hM.1 rfl ⟨⟨zw_26_20, zw_1_5, zw_26_17⟩, zd_X12_broken⟩ zw_26_18 zw_26_19 ⟨Nat.le_of_ble_eq_true rfl, Nat.le_of_ble_eq_true rfl⟩ ⟨rfl, rfl⟩ rfl hl.1 rfl (Nat.le_of_ble_eq_true rfl) dX12_entry_216 ⟨Nat.zero_le _, Nat.zero_le _⟩ hS (fun _ h => h) (fun v H locs hp hS _ _ => ?_)
    obtain ⟨rfl, hM⟩ := hp
    obtain ⟨ce, g1, g2, g3⟩ := hM.exc C.2.2.2.2.2.1
    refine vx_athrow C.1 C.2.1 dX12_entry_219 ?_
    exact hth _ _ _ _ _ _ _ hS ⟨3, q, xEnt_3 (by omega) (by unfold entLen; rw [if_neg (by omega), if_neg (by omega), if_neg (by omega)]) (by omega), ⟨_, hM, rfl, rfl, (chg_sx (by decide) (chg_sx (by decide) (chg_sf (by decide) (chg_sx (by decide) chg.rf))))⟩⟩ g1 g2 g3
  · refine y_tabIn C 3 h20 dX12_entry_20 (by decide) rfl (tgt := 93) (by decide) ?_
    refine lv_aload_n C.1 C.2.1 dX12_entry_93 rfl (lv_at hl 2 rfl) ?_
    refine m_get C hM 15 (v := .ref (ad 15)) (by decide) zw_5_3 rfl rfl dX12_entry_94 ?_
    refine lv_iload_n C.1 C.2.1 dX12_entry_97 rfl (lv_at hl 3 rfl) ?_
    refine lv_aload_n C.1 C.2.1 dX12_entry_98 rfl (lv_at hl 2 rfl) ?_
    refine lv_aload_n C.1 C.2.1 dX12_entry_99 rfl (lv_at hl 2 rfl) ?_
    refine lv_ldc2 (v := zL 4) C.1 C.2.1 C.2.2.2.1 (C.2.2.2.2.1 _ zw_27_16) dX12_entry_100 ?_
    refine z_callVX C (As := [.long (zL 4)]) (rest := [.ref o, zN k, .ref (ad 15)]) (c_X12_over l Z (n := n) (q := q + 1) (b := 4) hM (rfl) (h8) (by omega) (by omega) (by omega)) hM.1 rfl ⟨⟨zw_27_7, zw_1_5, zw_27_4⟩, zd_X12_over⟩ zw_27_5 zw_27_6 ⟨Nat.le_of_ble_eq_true rfl, Nat.le_of_ble_eq_true rfl⟩ ⟨rfl, rfl⟩ rfl hl.1 rfl (Nat.le_of_ble_eq_true rfl) dX12_entry_103 ⟨Nat.zero_le _, Nat.zero_le _⟩ hS (fun _ h => h) (fun H9 locs9 q9 ce9 hp9 hS9 _ _ g1 g2 g3 => ?_) (fun v H locs hp hS _ _ => ?_)
    · exact hth _ _ _ _ _ _ _ hS9 (⟨2, n, (xEnt_2 (L := 5) (by omega) (by rw [show F q = 3 by omega]; rfl) (by decide) (by omega)), ⟨_, hp9.2, rfl, rfl, (chg_sx (by decide) (chg_sx (by decide) (chg_sf (by decide) (chg_sx (by decide) chg.rf))))⟩⟩) g1 g2 g3
    obtain ⟨ho103, rfl, hM⟩ := hp
    refine z_readV C (As := [zN (q + 1)]) (rest := [zN k, .ref (ad 15)]) (c_X12_four l Z hM hB (q + 1) rfl (by omega)) hM.1 rfl ⟨⟨zw_28_2, zw_1_5, zw_27_23⟩, zd_X12_four⟩ zw_28_0 zw_28_1 ⟨Nat.le_of_ble_eq_true rfl, Nat.le_of_ble_eq_true rfl⟩ ⟨rfl, rfl⟩ rfl hl.1 rfl (Nat.le_of_ble_eq_true rfl) dX12_entry_106 ⟨Nat.zero_le _, Nat.zero_le _⟩ hS (fun locs hS => ?_)
    have := S4_rg hB.1 (q + 1)
    refine y_i2l C (a := S4 F (q + 1)) (by omega) dX12_entry_109 ?_
    refine m_lst C hM k (t := ((k : Nat) : Int)) rfl (by omega) hS dX12_entry_110 (fun H locs hM hS => ?_)
    refine lv_goto (tgt := 220) C.1 C.2.1 dX12_entry_111 (by decide) ?_
    refine lv_aload_n C.1 C.2.1 dX12_entry_220 rfl (lv_at hl 2 rfl) ?_
    refine m_get C hM 11 (v := .ref (ad 11)) (by decide) zw_4_22 rfl rfl dX12_entry_221 ?_
    refine lv_iload_n C.1 C.2.1 dX12_entry_224 rfl (lv_at hl 3 rfl) ?_
    refine lv_iload_n C.1 C.2.1 dX12_entry_225 rfl (lv_at hl 0 rfl) ?_
    refine m_ast C hM 11 (by decide) k (t := ((k : Nat) : Int)) rfl (by show _ < 502; omega) hS dX12_entry_226 (fun H locs hM hS => ?_)
    exact hret _ _ _ _ hS ⟨rfl, _, q + 5, (xEnt_ok (L := 5) (by omega) (by rw [show F q = 3 by omega]; rfl) (by decide) (by omega)), (by omega), (by omega), hM, rfl, (chg_sf (by decide) (chg_sg (by decide) (chg_sx (by decide) (chg_sf (by decide) (chg_sx (by decide) chg.rf))))), (fun j hj => ⟨upd_ne hj, upd_ne hj, by first | rfl | exact upd_ne hj, by first | rfl | exact upd_ne hj, by first | rfl | exact pk_uLn hj⟩), ⟨by omega, pk_us, pk_us, (fun z => absurd z (by omega)), fun _ => ⟨pk_uLs, by omega⟩, (fun z => absurd z (by omega)), (fun z => absurd z (by omega)), (fun z => absurd z (by omega)), by omega⟩⟩ dX12_entry_227
  · refine y_tabIn C 4 h20 dX12_entry_20 (by decide) rfl (tgt := 213) (by decide) ?_
    refine lv_aload_n C.1 C.2.1 dX12_entry_213 rfl (lv_at hl 2 rfl) ?_
    refine lv_iconst (v := zI 3) C.1 C.2.1 dX12_entry_214 (by decide) ?_
    refine lv_iload_n C.1 C.2.1 dX12_entry_215 rfl (lv_at hl 1 rfl) ?_
    refine z_callV C (As := [zN 3, zN q]) (rest := []) (c_X12_broken l Z hM (zI 3) (zI ((q : Nat) : Int))) hM.1 rfl ⟨⟨zw_26_20, zw_1_5, zw_26_17⟩, zd_X12_broken⟩ zw_26_18 zw_26_19 ⟨Nat.le_of_ble_eq_true rfl, Nat.le_of_ble_eq_true rfl⟩ ⟨rfl, rfl⟩ rfl hl.1 rfl (Nat.le_of_ble_eq_true rfl) dX12_entry_216 ⟨Nat.zero_le _, Nat.zero_le _⟩ hS (fun _ h => h) (fun v H locs hp hS _ _ => ?_)
    obtain ⟨rfl, hM⟩ := hp
    obtain ⟨ce, g1, g2, g3⟩ := hM.exc C.2.2.2.2.2.1
    refine vx_athrow C.1 C.2.1 dX12_entry_219 ?_
    exact hth _ _ _ _ _ _ _ hS ⟨3, q, xEnt_3 (by omega) (by unfold entLen; rw [if_neg (by omega), if_neg (by omega), if_neg (by omega)]) (by omega), ⟨_, hM, rfl, rfl, (chg_sx (by decide) (chg_sx (by decide) (chg_sf (by decide) (chg_sx (by decide) chg.rf))))⟩⟩ g1 g2 g3
  · refine y_tabIn C 5 h20 dX12_entry_20 (by decide) rfl (tgt := 114) (by decide) ?_
    refine lv_aload_n C.1 C.2.1 dX12_entry_114 rfl (lv_at hl 2 rfl) ?_
    refine lv_ldc2 (v := zL 8) C.1 C.2.1 C.2.2.2.1 (C.2.2.2.2.1 _ zw_27_17) dX12_entry_115 ?_
    refine z_callVX C (As := [.long (zL 8)]) (rest := []) (c_X12_over l Z (n := n) (q := q + 1) (b := 8) hM (rfl) (h8) (by omega) (by omega) (by omega)) hM.1 rfl ⟨⟨zw_27_7, zw_1_5, zw_27_4⟩, zd_X12_over⟩ zw_27_5 zw_27_6 ⟨Nat.le_of_ble_eq_true rfl, Nat.le_of_ble_eq_true rfl⟩ ⟨rfl, rfl⟩ rfl hl.1 rfl (Nat.le_of_ble_eq_true rfl) dX12_entry_118 ⟨Nat.zero_le _, Nat.zero_le _⟩ hS (fun _ h => h) (fun H9 locs9 q9 ce9 hp9 hS9 _ _ g1 g2 g3 => ?_) (fun v H locs hp hS _ _ => ?_)
    · exact hth _ _ _ _ _ _ _ hS9 (⟨2, n, (xEnt_2 (L := 9) (by omega) (by rw [show F q = 5 by omega]; rfl) (by decide) (by omega)), ⟨_, hp9.2, rfl, rfl, (chg_sx (by decide) (chg_sx (by decide) (chg_sf (by decide) (chg_sx (by decide) chg.rf))))⟩⟩) g1 g2 g3
    obtain ⟨ho118, rfl, hM⟩ := hp
    refine lv_istore (lv' := [(4, zN (q + 1)), (3, zN (F q)), (2, zN q), (0, .ref o), (1, zN k)]) C.1 C.2.1 dX12_entry_121 hl (by decide) rfl (fun ls hl => ?_)
    refine lv_aload_n C.1 C.2.1 dX12_entry_123 rfl (lv_at hl 3 rfl) ?_
    refine m_get C hM 15 (v := .ref (ad 15)) (by decide) zw_5_3 rfl rfl dX12_entry_124 ?_
    refine lv_iload_n C.1 C.2.1 dX12_entry_127 rfl (lv_at hl 4 rfl) ?_
    refine lv_aload_n C.1 C.2.1 dX12_entry_128 rfl (lv_at hl 3 rfl) ?_
    refine lv_iload C.1 C.2.1 dX12_entry_129 (lv_at hl 0 rfl) ?_
    refine z_readV C (As := [zN (q + 1)]) (rest := [zN k, .ref (ad 15)]) (c_X12_four l Z hM hB (q + 1) rfl (by omega)) hM.1 rfl ⟨⟨zw_28_2, zw_1_5, zw_27_23⟩, zd_X12_four⟩ zw_28_0 zw_28_1 ⟨Nat.le_of_ble_eq_true rfl, Nat.le_of_ble_eq_true rfl⟩ ⟨rfl, rfl⟩ rfl hl.1 rfl (Nat.le_of_ble_eq_true rfl) dX12_entry_131 ⟨Nat.zero_le _, Nat.zero_le _⟩ hS (fun locs hS => ?_)
    have := S4_rg hB.1 (q + 1)
    refine y_i2l C (a := S4 F (q + 1)) (by omega) dX12_entry_134 ?_
    refine lv_bipush (v := zI 32) C.1 C.2.1 dX12_entry_135 (by decide) ?_
    refine lv_lshl (v := (zL (S4 F (q + 1))) <<< ((zI 32).toInt64 &&& 63)) C.1 C.2.1 dX12_entry_137 rfl ?_
    refine lv_aload_n C.1 C.2.1 dX12_entry_138 rfl (lv_at hl 3 rfl) ?_
    refine lv_iload C.1 C.2.1 dX12_entry_139 (lv_at hl 0 rfl) ?_
    refine lv_iconst (v := zI 4) C.1 C.2.1 dX12_entry_141 (by decide) ?_
    refine y_iaddN C (a := q + 1) (b := 4) dX12_entry_142 ?_
    refine z_readV C (As := [zN ((q + 1) + 4)]) (rest := [.long ((zL (S4 F (q + 1))) <<< ((zI 32).toInt64 &&& 63)), zN k, .ref (ad 15)]) (c_X12_four l Z hM hB ((q + 1) + 4) rfl (by omega)) hM.1 rfl ⟨⟨zw_28_2, zw_1_5, zw_27_23⟩, zd_X12_four⟩ zw_28_0 zw_28_1 ⟨Nat.le_of_ble_eq_true rfl, Nat.le_of_ble_eq_true rfl⟩ ⟨rfl, rfl⟩ rfl hl.1 rfl (Nat.le_of_ble_eq_true rfl) dX12_entry_143 ⟨Nat.zero_le _, Nat.zero_le _⟩ hS (fun locs hS => ?_)
    have := S4_rg hB.1 ((q + 1) + 4)
    refine y_i2l C (a := S4 F ((q + 1) + 4)) (by omega) dX12_entry_146 ?_
    refine lv_ldc2 (v := zL 4294967295) C.1 C.2.1 C.2.2.2.1 (C.2.2.2.2.1 _ zw_27_18) dX12_entry_147 ?_
    refine lv_land C.1 C.2.1 dX12_entry_150 ?_
    refine lv_lor C.1 C.2.1 dX12_entry_151 ?_
    refine m_lst C hM k (t := ((k : Nat) : Int)) rfl (by omega) hS dX12_entry_152 (fun H locs hM hS => ?_)
    refine lv_goto (tgt := 220) C.1 C.2.1 dX12_entry_153 (by decide) ?_
    refine lv_aload_n C.1 C.2.1 dX12_entry_220 rfl (lv_at hl 3 rfl) ?_
    refine m_get C hM 11 (v := .ref (ad 11)) (by decide) zw_4_22 rfl rfl dX12_entry_221 ?_
    refine lv_iload_n C.1 C.2.1 dX12_entry_224 rfl (lv_at hl 4 rfl) ?_
    refine lv_iload_n C.1 C.2.1 dX12_entry_225 rfl (lv_at hl 1 rfl) ?_
    refine m_ast C hM 11 (by decide) k (t := ((k : Nat) : Int)) rfl (by show _ < 502; omega) hS dX12_entry_226 (fun H locs hM hS => ?_)
    exact hret _ _ _ _ hS ⟨rfl, _, q + 9, (xEnt_ok (L := 9) (by omega) (by rw [show F q = 5 by omega]; rfl) (by decide) (by omega)), (by omega), (by omega), hM, rfl, (chg_sf (by decide) (chg_sg (by decide) (chg_sx (by decide) (chg_sf (by decide) (chg_sx (by decide) chg.rf))))), (fun j hj => ⟨upd_ne hj, upd_ne hj, by first | rfl | exact upd_ne hj, by first | rfl | exact upd_ne hj, by first | rfl | exact pk_uLn hj⟩), ⟨by omega, pk_us, pk_us, (fun z => absurd z (by omega)), (fun z => absurd z (by omega)), fun _ => ⟨by show (vp_updL _ k _ k).toInt32 = _; rw [pk_uLs]; exact worth_lo _ _, by omega, by show ((vp_updL _ k _ k) >>> _).toInt32 = _; rw [pk_uLs]; exact worth_hi _ _⟩, (fun z => absurd z (by omega)), (fun z => absurd z (by omega)), by omega⟩⟩ dX12_entry_227
  · refine y_tabIn C 6 h20 dX12_entry_20 (by decide) rfl (tgt := 213) (by decide) ?_
    refine lv_aload_n C.1 C.2.1 dX12_entry_213 rfl (lv_at hl 2 rfl) ?_
    refine lv_iconst (v := zI 3) C.1 C.2.1 dX12_entry_214 (by decide) ?_
    refine lv_iload_n C.1 C.2.1 dX12_entry_215 rfl (lv_at hl 1 rfl) ?_
    refine z_callV C (As := [zN 3, zN q]) (rest := []) (c_X12_broken l Z hM (zI 3) (zI ((q : Nat) : Int))) hM.1 rfl ⟨⟨zw_26_20, zw_1_5, zw_26_17⟩, zd_X12_broken⟩ zw_26_18 zw_26_19 ⟨Nat.le_of_ble_eq_true rfl, Nat.le_of_ble_eq_true rfl⟩ ⟨rfl, rfl⟩ rfl hl.1 rfl (Nat.le_of_ble_eq_true rfl) dX12_entry_216 ⟨Nat.zero_le _, Nat.zero_le _⟩ hS (fun _ h => h) (fun v H locs hp hS _ _ => ?_)
    obtain ⟨rfl, hM⟩ := hp
    obtain ⟨ce, g1, g2, g3⟩ := hM.exc C.2.2.2.2.2.1
    refine vx_athrow C.1 C.2.1 dX12_entry_219 ?_
    exact hth _ _ _ _ _ _ _ hS ⟨3, q, xEnt_3 (by omega) (by unfold entLen; rw [if_neg (by omega), if_neg (by omega), if_neg (by omega)]) (by omega), ⟨_, hM, rfl, rfl, (chg_sx (by decide) (chg_sx (by decide) (chg_sf (by decide) (chg_sx (by decide) chg.rf))))⟩⟩ g1 g2 g3
  · refine y_tabIn C 7 h20 dX12_entry_20 (by decide) rfl (tgt := 156) (by decide) ?_
    refine lv_aload_n C.1 C.2.1 dX12_entry_156 rfl (lv_at hl 2 rfl) ?_
    refine m_get C hM 13 (v := .ref (ad 13)) (by decide) zw_5_0 rfl rfl dX12_entry_157 ?_
    refine lv_iload_n C.1 C.2.1 dX12_entry_160 rfl (lv_at hl 3 rfl) ?_
    refine lv_aload_n C.1 C.2.1 dX12_entry_161 rfl (lv_at hl 2 rfl) ?_
    refine lv_aload_n C.1 C.2.1 dX12_entry_162 rfl (lv_at hl 2 rfl) ?_
    refine lv_ldc2 (v := zL 2) C.1 C.2.1 C.2.2.2.1 (C.2.2.2.2.1 _ zw_26_8) dX12_entry_163 ?_
    refine z_callVX C (As := [.long (zL 2)]) (rest := [.ref o, zN k, .ref (ad 13)]) (c_X12_over l Z (n := n) (q := q + 1) (b := 2) hM (rfl) (h8) (by omega) (by omega) (by omega)) hM.1 rfl ⟨⟨zw_27_7, zw_1_5, zw_27_4⟩, zd_X12_over⟩ zw_27_5 zw_27_6 ⟨Nat.le_of_ble_eq_true rfl, Nat.le_of_ble_eq_true rfl⟩ ⟨rfl, rfl⟩ rfl hl.1 rfl (Nat.le_of_ble_eq_true rfl) dX12_entry_166 ⟨Nat.zero_le _, Nat.zero_le _⟩ hS (fun _ h => h) (fun H9 locs9 q9 ce9 hp9 hS9 _ _ g1 g2 g3 => ?_) (fun v H locs hp hS _ _ => ?_)
    · exact hth _ _ _ _ _ _ _ hS9 (⟨2, n, (xEnt_2 (L := 3) (by omega) (by rw [show F q = 7 by omega]; rfl) (by decide) (by omega)), ⟨_, hp9.2, rfl, rfl, (chg_sx (by decide) (chg_sx (by decide) (chg_sf (by decide) (chg_sx (by decide) chg.rf))))⟩⟩) g1 g2 g3
    obtain ⟨ho166, rfl, hM⟩ := hp
    refine z_readV C (As := [zN (q + 1)]) (rest := [zN k, .ref (ad 13)]) (c_X12_two l Z hM hB (q + 1) rfl (by omega)) hM.1 rfl ⟨⟨zw_27_11, zw_1_5, zw_27_8⟩, zd_X12_two⟩ zw_27_9 zw_27_10 ⟨Nat.le_of_ble_eq_true rfl, Nat.le_of_ble_eq_true rfl⟩ ⟨rfl, rfl⟩ rfl hl.1 rfl (Nat.le_of_ble_eq_true rfl) dX12_entry_169 ⟨Nat.zero_le _, Nat.zero_le _⟩ hS (fun locs hS => ?_)
    have := U2_lt hB.1 (q + 1)
    refine m_ast C hM 13 (by decide) k (t := ((k : Nat) : Int)) rfl (by show _ < 502; omega) hS dX12_entry_172 (fun H locs hM hS => ?_)
    refine lv_goto (tgt := 220) C.1 C.2.1 dX12_entry_173 (by decide) ?_
    refine lv_aload_n C.1 C.2.1 dX12_entry_220 rfl (lv_at hl 2 rfl) ?_
    refine m_get C hM 11 (v := .ref (ad 11)) (by decide) zw_4_22 rfl rfl dX12_entry_221 ?_
    refine lv_iload_n C.1 C.2.1 dX12_entry_224 rfl (lv_at hl 3 rfl) ?_
    refine lv_iload_n C.1 C.2.1 dX12_entry_225 rfl (lv_at hl 0 rfl) ?_
    refine m_ast C hM 11 (by decide) k (t := ((k : Nat) : Int)) rfl (by show _ < 502; omega) hS dX12_entry_226 (fun H locs hM hS => ?_)
    exact hret _ _ _ _ hS ⟨rfl, _, q + 3, (xEnt_ok (L := 3) (by omega) (by rw [show F q = 7 by omega]; rfl) (by decide) (by omega)), (by omega), (by omega), hM, rfl, (chg_sf (by decide) (chg_sf (by decide) (chg_sx (by decide) (chg_sf (by decide) (chg_sx (by decide) chg.rf))))), (fun j hj => ⟨upd_ne hj, upd_ne hj, by first | rfl | exact upd_ne hj, by first | rfl | exact upd_ne hj, by first | rfl | exact pk_uLn hj⟩), ⟨by omega, pk_us, pk_us, (fun z => absurd z (by omega)), (fun z => absurd z (by omega)), (fun z => absurd z (by omega)), fun _ => ⟨pk_us, by omega⟩, (fun z => absurd z (by omega)), by omega⟩⟩ dX12_entry_227
  · refine y_tabIn C 8 h20 dX12_entry_20 (by decide) rfl (tgt := 213) (by decide) ?_
    refine lv_aload_n C.1 C.2.1 dX12_entry_213 rfl (lv_at hl 2 rfl) ?_
    refine lv_iconst (v := zI 3) C.1 C.2.1 dX12_entry_214 (by decide) ?_
    refine lv_iload_n C.1 C.2.1 dX12_entry_215 rfl (lv_at hl 1 rfl) ?_
    refine z_callV C (As := [zN 3, zN q]) (rest := []) (c_X12_broken l Z hM (zI 3) (zI ((q : Nat) : Int))) hM.1 rfl ⟨⟨zw_26_20, zw_1_5, zw_26_17⟩, zd_X12_broken⟩ zw_26_18 zw_26_19 ⟨Nat.le_of_ble_eq_true rfl, Nat.le_of_ble_eq_true rfl⟩ ⟨rfl, rfl⟩ rfl hl.1 rfl (Nat.le_of_ble_eq_true rfl) dX12_entry_216 ⟨Nat.zero_le _, Nat.zero_le _⟩ hS (fun _ h => h) (fun v H locs hp hS _ _ => ?_)
    obtain ⟨rfl, hM⟩ := hp
    obtain ⟨ce, g1, g2, g3⟩ := hM.exc C.2.2.2.2.2.1
    refine vx_athrow C.1 C.2.1 dX12_entry_219 ?_
    exact hth _ _ _ _ _ _ _ hS ⟨3, q, xEnt_3 (by omega) (by unfold entLen; rw [if_neg (by omega), if_neg (by omega), if_neg (by omega)]) (by omega), ⟨_, hM, rfl, rfl, (chg_sx (by decide) (chg_sx (by decide) (chg_sf (by decide) (chg_sx (by decide) chg.rf))))⟩⟩ g1 g2 g3
  · refine y_tabIn C 9 h20 dX12_entry_20 (by decide) rfl (tgt := 176) (by decide) ?_
    refine lv_aload_n C.1 C.2.1 dX12_entry_176 rfl (lv_at hl 2 rfl) ?_
    refine m_get C hM 13 (v := .ref (ad 13)) (by decide) zw_5_0 rfl rfl dX12_entry_177 ?_
    refine lv_iload_n C.1 C.2.1 dX12_entry_180 rfl (lv_at hl 3 rfl) ?_
    refine lv_aload_n C.1 C.2.1 dX12_entry_181 rfl (lv_at hl 2 rfl) ?_
    refine lv_aload_n C.1 C.2.1 dX12_entry_182 rfl (lv_at hl 2 rfl) ?_
    refine lv_ldc2 (v := zL 2) C.1 C.2.1 C.2.2.2.1 (C.2.2.2.2.1 _ zw_26_8) dX12_entry_183 ?_
    refine z_callVX C (As := [.long (zL 2)]) (rest := [.ref o, zN k, .ref (ad 13)]) (c_X12_over l Z (n := n) (q := q + 1) (b := 2) hM (rfl) (h8) (by omega) (by omega) (by omega)) hM.1 rfl ⟨⟨zw_27_7, zw_1_5, zw_27_4⟩, zd_X12_over⟩ zw_27_5 zw_27_6 ⟨Nat.le_of_ble_eq_true rfl, Nat.le_of_ble_eq_true rfl⟩ ⟨rfl, rfl⟩ rfl hl.1 rfl (Nat.le_of_ble_eq_true rfl) dX12_entry_186 ⟨Nat.zero_le _, Nat.zero_le _⟩ hS (fun _ h => h) (fun H9 locs9 q9 ce9 hp9 hS9 _ _ g1 g2 g3 => ?_) (fun v H locs hp hS _ _ => ?_)
    · exact hth _ _ _ _ _ _ _ hS9 (⟨2, n, (xEnt_2 (L := 5) (by omega) (by rw [show F q = 9 by omega]; rfl) (by decide) (by omega)), ⟨_, hp9.2, rfl, rfl, (chg_sx (by decide) (chg_sx (by decide) (chg_sf (by decide) (chg_sx (by decide) chg.rf))))⟩⟩) g1 g2 g3
    obtain ⟨ho186, rfl, hM⟩ := hp
    refine z_readV C (As := [zN (q + 1)]) (rest := [zN k, .ref (ad 13)]) (c_X12_two l Z hM hB (q + 1) rfl (by omega)) hM.1 rfl ⟨⟨zw_27_11, zw_1_5, zw_27_8⟩, zd_X12_two⟩ zw_27_9 zw_27_10 ⟨Nat.le_of_ble_eq_true rfl, Nat.le_of_ble_eq_true rfl⟩ ⟨rfl, rfl⟩ rfl hl.1 rfl (Nat.le_of_ble_eq_true rfl) dX12_entry_189 ⟨Nat.zero_le _, Nat.zero_le _⟩ hS (fun locs hS => ?_)
    have := U2_lt hB.1 (q + 1)
    refine m_ast C hM 13 (by decide) k (t := ((k : Nat) : Int)) rfl (by show _ < 502; omega) hS dX12_entry_192 (fun H locs hM hS => ?_)
    refine lv_aload_n C.1 C.2.1 dX12_entry_193 rfl (lv_at hl 2 rfl) ?_
    refine m_get C hM 14 (v := .ref (ad 14)) (by decide) zw_5_1 rfl rfl dX12_entry_194 ?_
    refine lv_iload_n C.1 C.2.1 dX12_entry_197 rfl (lv_at hl 3 rfl) ?_
    refine lv_aload_n C.1 C.2.1 dX12_entry_198 rfl (lv_at hl 2 rfl) ?_
    refine lv_aload_n C.1 C.2.1 dX12_entry_199 rfl (lv_at hl 2 rfl) ?_
    refine lv_ldc2 (v := zL 2) C.1 C.2.1 C.2.2.2.1 (C.2.2.2.2.1 _ zw_26_8) dX12_entry_200 ?_
    refine z_callVX C (As := [.long (zL 2)]) (rest := [.ref o, zN k, .ref (ad 14)]) (c_X12_over l Z (n := n) (q := q + 1 + 2) (b := 2) hM (rfl) (h8) (by omega) (by omega) (by omega)) hM.1 rfl ⟨⟨zw_27_7, zw_1_5, zw_27_4⟩, zd_X12_over⟩ zw_27_5 zw_27_6 ⟨Nat.le_of_ble_eq_true rfl, Nat.le_of_ble_eq_true rfl⟩ ⟨rfl, rfl⟩ rfl hl.1 rfl (Nat.le_of_ble_eq_true rfl) dX12_entry_203 ⟨Nat.zero_le _, Nat.zero_le _⟩ hS (fun _ h => h) (fun H9 locs9 q9 ce9 hp9 hS9 _ _ g1 g2 g3 => ?_) (fun v H locs hp hS _ _ => ?_)
    · exact hth _ _ _ _ _ _ _ hS9 (⟨2, n, (xEnt_2 (L := 5) (by omega) (by rw [show F q = 9 by omega]; rfl) (by decide) (by omega)), ⟨_, hp9.2, rfl, rfl, (chg_sx (by decide) (chg_sx (by decide) (chg_sf (by decide) (chg_sx (by decide) (chg_sf (by decide) (chg_sx (by decide) chg.rf))))))⟩⟩) g1 g2 g3
    obtain ⟨ho203, rfl, hM⟩ := hp
    refine z_readV C (As := [zN (q + 1 + 2)]) (rest := [zN k, .ref (ad 14)]) (c_X12_two l Z hM hB (q + 1 + 2) rfl (by omega)) hM.1 rfl ⟨⟨zw_27_11, zw_1_5, zw_27_8⟩, zd_X12_two⟩ zw_27_9 zw_27_10 ⟨Nat.le_of_ble_eq_true rfl, Nat.le_of_ble_eq_true rfl⟩ ⟨rfl, rfl⟩ rfl hl.1 rfl (Nat.le_of_ble_eq_true rfl) dX12_entry_206 ⟨Nat.zero_le _, Nat.zero_le _⟩ hS (fun locs hS => ?_)
    have := U2_lt hB.1 (q + 1 + 2)
    refine m_ast C hM 14 (by decide) k (t := ((k : Nat) : Int)) rfl (by show _ < 502; omega) hS dX12_entry_209 (fun H locs hM hS => ?_)
    refine lv_goto (tgt := 220) C.1 C.2.1 dX12_entry_210 (by decide) ?_
    refine lv_aload_n C.1 C.2.1 dX12_entry_220 rfl (lv_at hl 2 rfl) ?_
    refine m_get C hM 11 (v := .ref (ad 11)) (by decide) zw_4_22 rfl rfl dX12_entry_221 ?_
    refine lv_iload_n C.1 C.2.1 dX12_entry_224 rfl (lv_at hl 3 rfl) ?_
    refine lv_iload_n C.1 C.2.1 dX12_entry_225 rfl (lv_at hl 0 rfl) ?_
    refine m_ast C hM 11 (by decide) k (t := ((k : Nat) : Int)) rfl (by show _ < 502; omega) hS dX12_entry_226 (fun H locs hM hS => ?_)
    exact hret _ _ _ _ hS ⟨rfl, _, q + 5, (xEnt_ok (L := 5) (by omega) (by rw [show F q = 9 by omega]; rfl) (by decide) (by omega)), (by omega), (by omega), hM, rfl, (chg_sf (by decide) (chg_sf (by decide) (chg_sx (by decide) (chg_sf (by decide) (chg_sx (by decide) (chg_sf (by decide) (chg_sx (by decide) chg.rf))))))), (fun j hj => ⟨upd_ne hj, upd_ne hj, by first | rfl | exact upd_ne hj, by first | rfl | exact upd_ne hj, by first | rfl | exact pk_uLn hj⟩), ⟨by omega, pk_us, pk_us, (fun z => absurd z (by omega)), (fun z => absurd z (by omega)), (fun z => absurd z (by omega)), (fun z => absurd z (by omega)), fun _ => ⟨pk_us, pk_us, by omega⟩, by omega⟩⟩ dX12_entry_227
  · refine y_tabIn C 10 h20 dX12_entry_20 (by decide) rfl (tgt := 176) (by decide) ?_
    refine lv_aload_n C.1 C.2.1 dX12_entry_176 rfl (lv_at hl 2 rfl) ?_
    refine m_get C hM 13 (v := .ref (ad 13)) (by decide) zw_5_0 rfl rfl dX12_entry_177 ?_
    refine lv_iload_n C.1 C.2.1 dX12_entry_180 rfl (lv_at hl 3 rfl) ?_
    refine lv_aload_n C.1 C.2.1 dX12_entry_181 rfl (lv_at hl 2 rfl) ?_
    refine lv_aload_n C.1 C.2.1 dX12_entry_182 rfl (lv_at hl 2 rfl) ?_
    refine lv_ldc2 (v := zL 2) C.1 C.2.1 C.2.2.2.1 (C.2.2.2.2.1 _ zw_26_8) dX12_entry_183 ?_
    refine z_callVX C (As := [.long (zL 2)]) (rest := [.ref o, zN k, .ref (ad 13)]) (c_X12_over l Z (n := n) (q := q + 1) (b := 2) hM (rfl) (h8) (by omega) (by omega) (by omega)) hM.1 rfl ⟨⟨zw_27_7, zw_1_5, zw_27_4⟩, zd_X12_over⟩ zw_27_5 zw_27_6 ⟨Nat.le_of_ble_eq_true rfl, Nat.le_of_ble_eq_true rfl⟩ ⟨rfl, rfl⟩ rfl hl.1 rfl (Nat.le_of_ble_eq_true rfl) dX12_entry_186 ⟨Nat.zero_le _, Nat.zero_le _⟩ hS (fun _ h => h) (fun H9 locs9 q9 ce9 hp9 hS9 _ _ g1 g2 g3 => ?_) (fun v H locs hp hS _ _ => ?_)
    · exact hth _ _ _ _ _ _ _ hS9 (⟨2, n, (xEnt_2 (L := 5) (by omega) (by rw [show F q = 10 by omega]; rfl) (by decide) (by omega)), ⟨_, hp9.2, rfl, rfl, (chg_sx (by decide) (chg_sx (by decide) (chg_sf (by decide) (chg_sx (by decide) chg.rf))))⟩⟩) g1 g2 g3
    obtain ⟨ho186, rfl, hM⟩ := hp
    refine z_readV C (As := [zN (q + 1)]) (rest := [zN k, .ref (ad 13)]) (c_X12_two l Z hM hB (q + 1) rfl (by omega)) hM.1 rfl ⟨⟨zw_27_11, zw_1_5, zw_27_8⟩, zd_X12_two⟩ zw_27_9 zw_27_10 ⟨Nat.le_of_ble_eq_true rfl, Nat.le_of_ble_eq_true rfl⟩ ⟨rfl, rfl⟩ rfl hl.1 rfl (Nat.le_of_ble_eq_true rfl) dX12_entry_189 ⟨Nat.zero_le _, Nat.zero_le _⟩ hS (fun locs hS => ?_)
    have := U2_lt hB.1 (q + 1)
    refine m_ast C hM 13 (by decide) k (t := ((k : Nat) : Int)) rfl (by show _ < 502; omega) hS dX12_entry_192 (fun H locs hM hS => ?_)
    refine lv_aload_n C.1 C.2.1 dX12_entry_193 rfl (lv_at hl 2 rfl) ?_
    refine m_get C hM 14 (v := .ref (ad 14)) (by decide) zw_5_1 rfl rfl dX12_entry_194 ?_
    refine lv_iload_n C.1 C.2.1 dX12_entry_197 rfl (lv_at hl 3 rfl) ?_
    refine lv_aload_n C.1 C.2.1 dX12_entry_198 rfl (lv_at hl 2 rfl) ?_
    refine lv_aload_n C.1 C.2.1 dX12_entry_199 rfl (lv_at hl 2 rfl) ?_
    refine lv_ldc2 (v := zL 2) C.1 C.2.1 C.2.2.2.1 (C.2.2.2.2.1 _ zw_26_8) dX12_entry_200 ?_
    refine z_callVX C (As := [.long (zL 2)]) (rest := [.ref o, zN k, .ref (ad 14)]) (c_X12_over l Z (n := n) (q := q + 1 + 2) (b := 2) hM (rfl) (h8) (by omega) (by omega) (by omega)) hM.1 rfl ⟨⟨zw_27_7, zw_1_5, zw_27_4⟩, zd_X12_over⟩ zw_27_5 zw_27_6 ⟨Nat.le_of_ble_eq_true rfl, Nat.le_of_ble_eq_true rfl⟩ ⟨rfl, rfl⟩ rfl hl.1 rfl (Nat.le_of_ble_eq_true rfl) dX12_entry_203 ⟨Nat.zero_le _, Nat.zero_le _⟩ hS (fun _ h => h) (fun H9 locs9 q9 ce9 hp9 hS9 _ _ g1 g2 g3 => ?_) (fun v H locs hp hS _ _ => ?_)
    · exact hth _ _ _ _ _ _ _ hS9 (⟨2, n, (xEnt_2 (L := 5) (by omega) (by rw [show F q = 10 by omega]; rfl) (by decide) (by omega)), ⟨_, hp9.2, rfl, rfl, (chg_sx (by decide) (chg_sx (by decide) (chg_sf (by decide) (chg_sx (by decide) (chg_sf (by decide) (chg_sx (by decide) chg.rf))))))⟩⟩) g1 g2 g3
    obtain ⟨ho203, rfl, hM⟩ := hp
    refine z_readV C (As := [zN (q + 1 + 2)]) (rest := [zN k, .ref (ad 14)]) (c_X12_two l Z hM hB (q + 1 + 2) rfl (by omega)) hM.1 rfl ⟨⟨zw_27_11, zw_1_5, zw_27_8⟩, zd_X12_two⟩ zw_27_9 zw_27_10 ⟨Nat.le_of_ble_eq_true rfl, Nat.le_of_ble_eq_true rfl⟩ ⟨rfl, rfl⟩ rfl hl.1 rfl (Nat.le_of_ble_eq_true rfl) dX12_entry_206 ⟨Nat.zero_le _, Nat.zero_le _⟩ hS (fun locs hS => ?_)
    have := U2_lt hB.1 (q + 1 + 2)
    refine m_ast C hM 14 (by decide) k (t := ((k : Nat) : Int)) rfl (by show _ < 502; omega) hS dX12_entry_209 (fun H locs hM hS => ?_)
    refine lv_goto (tgt := 220) C.1 C.2.1 dX12_entry_210 (by decide) ?_
    refine lv_aload_n C.1 C.2.1 dX12_entry_220 rfl (lv_at hl 2 rfl) ?_
    refine m_get C hM 11 (v := .ref (ad 11)) (by decide) zw_4_22 rfl rfl dX12_entry_221 ?_
    refine lv_iload_n C.1 C.2.1 dX12_entry_224 rfl (lv_at hl 3 rfl) ?_
    refine lv_iload_n C.1 C.2.1 dX12_entry_225 rfl (lv_at hl 0 rfl) ?_
    refine m_ast C hM 11 (by decide) k (t := ((k : Nat) : Int)) rfl (by show _ < 502; omega) hS dX12_entry_226 (fun H locs hM hS => ?_)
    exact hret _ _ _ _ hS ⟨rfl, _, q + 5, (xEnt_ok (L := 5) (by omega) (by rw [show F q = 10 by omega]; rfl) (by decide) (by omega)), (by omega), (by omega), hM, rfl, (chg_sf (by decide) (chg_sf (by decide) (chg_sx (by decide) (chg_sf (by decide) (chg_sx (by decide) (chg_sf (by decide) (chg_sx (by decide) chg.rf))))))), (fun j hj => ⟨upd_ne hj, upd_ne hj, by first | rfl | exact upd_ne hj, by first | rfl | exact upd_ne hj, by first | rfl | exact pk_uLn hj⟩), ⟨by omega, pk_us, pk_us, (fun z => absurd z (by omega)), (fun z => absurd z (by omega)), (fun z => absurd z (by omega)), (fun z => absurd z (by omega)), fun _ => ⟨pk_us, pk_us, by omega⟩, by omega⟩⟩ dX12_entry_227
  · refine y_tabIn C 11 h20 dX12_entry_20 (by decide) rfl (tgt := 213) (by decide) ?_
    refine lv_aload_n C.1 C.2.1 dX12_entry_213 rfl (lv_at hl 2 rfl) ?_
    refine lv_iconst (v := zI 3) C.1 C.2.1 dX12_entry_214 (by decide) ?_
    refine lv_iload_n C.1 C.2.1 dX12_entry_215 rfl (lv_at hl 1 rfl) ?_
    refine z_callV C (As := [zN 3, zN q]) (rest := []) (c_X12_broken l Z hM (zI 3) (zI ((q : Nat) : Int))) hM.1 rfl ⟨⟨zw_26_20, zw_1_5, zw_26_17⟩, zd_X12_broken⟩ zw_26_18 zw_26_19 ⟨Nat.le_of_ble_eq_true rfl, Nat.le_of_ble_eq_true rfl⟩ ⟨rfl, rfl⟩ rfl hl.1 rfl (Nat.le_of_ble_eq_true rfl) dX12_entry_216 ⟨Nat.zero_le _, Nat.zero_le _⟩ hS (fun _ h => h) (fun v H locs hp hS _ _ => ?_)
    obtain ⟨rfl, hM⟩ := hp
    obtain ⟨ce, g1, g2, g3⟩ := hM.exc C.2.2.2.2.2.1
    refine vx_athrow C.1 C.2.1 dX12_entry_219 ?_
    exact hth _ _ _ _ _ _ _ hS ⟨3, q, xEnt_3 (by omega) (by unfold entLen; rw [if_neg (by omega), if_neg (by omega), if_neg (by omega)]) (by omega), ⟨_, hM, rfl, rfl, (chg_sx (by decide) (chg_sx (by decide) (chg_sf (by decide) (chg_sx (by decide) chg.rf))))⟩⟩ g1 g2 g3
  · refine y_tabIn C 12 h20 dX12_entry_20 (by decide) rfl (tgt := 176) (by decide) ?_
    refine lv_aload_n C.1 C.2.1 dX12_entry_176 rfl (lv_at hl 2 rfl) ?_
    refine m_get C hM 13 (v := .ref (ad 13)) (by decide) zw_5_0 rfl rfl dX12_entry_177 ?_
    refine lv_iload_n C.1 C.2.1 dX12_entry_180 rfl (lv_at hl 3 rfl) ?_
    refine lv_aload_n C.1 C.2.1 dX12_entry_181 rfl (lv_at hl 2 rfl) ?_
    refine lv_aload_n C.1 C.2.1 dX12_entry_182 rfl (lv_at hl 2 rfl) ?_
    refine lv_ldc2 (v := zL 2) C.1 C.2.1 C.2.2.2.1 (C.2.2.2.2.1 _ zw_26_8) dX12_entry_183 ?_
    refine z_callVX C (As := [.long (zL 2)]) (rest := [.ref o, zN k, .ref (ad 13)]) (c_X12_over l Z (n := n) (q := q + 1) (b := 2) hM (rfl) (h8) (by omega) (by omega) (by omega)) hM.1 rfl ⟨⟨zw_27_7, zw_1_5, zw_27_4⟩, zd_X12_over⟩ zw_27_5 zw_27_6 ⟨Nat.le_of_ble_eq_true rfl, Nat.le_of_ble_eq_true rfl⟩ ⟨rfl, rfl⟩ rfl hl.1 rfl (Nat.le_of_ble_eq_true rfl) dX12_entry_186 ⟨Nat.zero_le _, Nat.zero_le _⟩ hS (fun _ h => h) (fun H9 locs9 q9 ce9 hp9 hS9 _ _ g1 g2 g3 => ?_) (fun v H locs hp hS _ _ => ?_)
    · exact hth _ _ _ _ _ _ _ hS9 (⟨2, n, (xEnt_2 (L := 5) (by omega) (by rw [show F q = 12 by omega]; rfl) (by decide) (by omega)), ⟨_, hp9.2, rfl, rfl, (chg_sx (by decide) (chg_sx (by decide) (chg_sf (by decide) (chg_sx (by decide) chg.rf))))⟩⟩) g1 g2 g3
    obtain ⟨ho186, rfl, hM⟩ := hp
    refine z_readV C (As := [zN (q + 1)]) (rest := [zN k, .ref (ad 13)]) (c_X12_two l Z hM hB (q + 1) rfl (by omega)) hM.1 rfl ⟨⟨zw_27_11, zw_1_5, zw_27_8⟩, zd_X12_two⟩ zw_27_9 zw_27_10 ⟨Nat.le_of_ble_eq_true rfl, Nat.le_of_ble_eq_true rfl⟩ ⟨rfl, rfl⟩ rfl hl.1 rfl (Nat.le_of_ble_eq_true rfl) dX12_entry_189 ⟨Nat.zero_le _, Nat.zero_le _⟩ hS (fun locs hS => ?_)
    have := U2_lt hB.1 (q + 1)
    refine m_ast C hM 13 (by decide) k (t := ((k : Nat) : Int)) rfl (by show _ < 502; omega) hS dX12_entry_192 (fun H locs hM hS => ?_)
    refine lv_aload_n C.1 C.2.1 dX12_entry_193 rfl (lv_at hl 2 rfl) ?_
    refine m_get C hM 14 (v := .ref (ad 14)) (by decide) zw_5_1 rfl rfl dX12_entry_194 ?_
    refine lv_iload_n C.1 C.2.1 dX12_entry_197 rfl (lv_at hl 3 rfl) ?_
    refine lv_aload_n C.1 C.2.1 dX12_entry_198 rfl (lv_at hl 2 rfl) ?_
    refine lv_aload_n C.1 C.2.1 dX12_entry_199 rfl (lv_at hl 2 rfl) ?_
    refine lv_ldc2 (v := zL 2) C.1 C.2.1 C.2.2.2.1 (C.2.2.2.2.1 _ zw_26_8) dX12_entry_200 ?_
    refine z_callVX C (As := [.long (zL 2)]) (rest := [.ref o, zN k, .ref (ad 14)]) (c_X12_over l Z (n := n) (q := q + 1 + 2) (b := 2) hM (rfl) (h8) (by omega) (by omega) (by omega)) hM.1 rfl ⟨⟨zw_27_7, zw_1_5, zw_27_4⟩, zd_X12_over⟩ zw_27_5 zw_27_6 ⟨Nat.le_of_ble_eq_true rfl, Nat.le_of_ble_eq_true rfl⟩ ⟨rfl, rfl⟩ rfl hl.1 rfl (Nat.le_of_ble_eq_true rfl) dX12_entry_203 ⟨Nat.zero_le _, Nat.zero_le _⟩ hS (fun _ h => h) (fun H9 locs9 q9 ce9 hp9 hS9 _ _ g1 g2 g3 => ?_) (fun v H locs hp hS _ _ => ?_)
    · exact hth _ _ _ _ _ _ _ hS9 (⟨2, n, (xEnt_2 (L := 5) (by omega) (by rw [show F q = 12 by omega]; rfl) (by decide) (by omega)), ⟨_, hp9.2, rfl, rfl, (chg_sx (by decide) (chg_sx (by decide) (chg_sf (by decide) (chg_sx (by decide) (chg_sf (by decide) (chg_sx (by decide) chg.rf))))))⟩⟩) g1 g2 g3
    obtain ⟨ho203, rfl, hM⟩ := hp
    refine z_readV C (As := [zN (q + 1 + 2)]) (rest := [zN k, .ref (ad 14)]) (c_X12_two l Z hM hB (q + 1 + 2) rfl (by omega)) hM.1 rfl ⟨⟨zw_27_11, zw_1_5, zw_27_8⟩, zd_X12_two⟩ zw_27_9 zw_27_10 ⟨Nat.le_of_ble_eq_true rfl, Nat.le_of_ble_eq_true rfl⟩ ⟨rfl, rfl⟩ rfl hl.1 rfl (Nat.le_of_ble_eq_true rfl) dX12_entry_206 ⟨Nat.zero_le _, Nat.zero_le _⟩ hS (fun locs hS => ?_)
    have := U2_lt hB.1 (q + 1 + 2)
    refine m_ast C hM 14 (by decide) k (t := ((k : Nat) : Int)) rfl (by show _ < 502; omega) hS dX12_entry_209 (fun H locs hM hS => ?_)
    refine lv_goto (tgt := 220) C.1 C.2.1 dX12_entry_210 (by decide) ?_
    refine lv_aload_n C.1 C.2.1 dX12_entry_220 rfl (lv_at hl 2 rfl) ?_
    refine m_get C hM 11 (v := .ref (ad 11)) (by decide) zw_4_22 rfl rfl dX12_entry_221 ?_
    refine lv_iload_n C.1 C.2.1 dX12_entry_224 rfl (lv_at hl 3 rfl) ?_
    refine lv_iload_n C.1 C.2.1 dX12_entry_225 rfl (lv_at hl 0 rfl) ?_
    refine m_ast C hM 11 (by decide) k (t := ((k : Nat) : Int)) rfl (by show _ < 502; omega) hS dX12_entry_226 (fun H locs hM hS => ?_)
    exact hret _ _ _ _ hS ⟨rfl, _, q + 5, (xEnt_ok (L := 5) (by omega) (by rw [show F q = 12 by omega]; rfl) (by decide) (by omega)), (by omega), (by omega), hM, rfl, (chg_sf (by decide) (chg_sf (by decide) (chg_sx (by decide) (chg_sf (by decide) (chg_sx (by decide) (chg_sf (by decide) (chg_sx (by decide) chg.rf))))))), (fun j hj => ⟨upd_ne hj, upd_ne hj, by first | rfl | exact upd_ne hj, by first | rfl | exact upd_ne hj, by first | rfl | exact pk_uLn hj⟩), ⟨by omega, pk_us, pk_us, (fun z => absurd z (by omega)), (fun z => absurd z (by omega)), (fun z => absurd z (by omega)), (fun z => absurd z (by omega)), fun _ => ⟨pk_us, pk_us, by omega⟩, by omega⟩⟩ dX12_entry_227
  · refine y_tabOut C h20 (by omega) dX12_entry_20 (tgt := 213) (by decide) ?_
    refine lv_aload_n C.1 C.2.1 dX12_entry_213 rfl (lv_at hl 2 rfl) ?_
    refine lv_iconst (v := zI 3) C.1 C.2.1 dX12_entry_214 (by decide) ?_
    refine lv_iload_n C.1 C.2.1 dX12_entry_215 rfl (lv_at hl 1 rfl) ?_
    refine z_callV C (As := [zN 3, zN q]) (rest := []) (c_X12_broken l Z hM (zI 3) (zI ((q : Nat) : Int))) hM.1 rfl ⟨⟨zw_26_20, zw_1_5, zw_26_17⟩, zd_X12_broken⟩ zw_26_18 zw_26_19 ⟨Nat.le_of_ble_eq_true rfl, Nat.le_of_ble_eq_true rfl⟩ ⟨rfl, rfl⟩ rfl hl.1 rfl (Nat.le_of_ble_eq_true rfl) dX12_entry_216 ⟨Nat.zero_le _, Nat.zero_le _⟩ hS (fun _ h => h) (fun v H locs hp hS _ _ => ?_)
    obtain ⟨rfl, hM⟩ := hp
    obtain ⟨ce, g1, g2, g3⟩ := hM.exc C.2.2.2.2.2.1
    refine vx_athrow C.1 C.2.1 dX12_entry_219 ?_
    exact hth _ _ _ _ _ _ _ hS ⟨3, q, xEnt_3 (by omega) (by unfold entLen; rw [if_neg (by omega), if_neg (by omega), if_neg (by omega)]) (by omega), ⟨_, hM, rfl, rfl, (chg_sx (by decide) (chg_sx (by decide) (chg_sf (by decide) (chg_sx (by decide) chg.rf))))⟩⟩ g1 g2 g3
