/-! the component: the pool's rows filled, members, the layout -/
section CN
variable {p : Program} {l : Launch} {e : Env} {R : Room} {s : State} {m : MethodId} {args : Array Value} {below : List Frame} {meth : Method} {c : Code} {H : Heap} {locs : List Loc} {cells slots : Nat} {Q : State → Prop}
variable {Z : zT} {cc : ByteArray} {nL : Nat} {own : String} {ret : Option FieldType} {A : Nat → Prop} {a : Nat} {pc : Nat} {ls : Array Slot} {rest st0 : List Value}
theorem z_new (C : zC Z A p s m args meth c cc nL own ret) {ci N idx : Nat} {T : u_T} {C0 : String} (hin : ∀ w ∈ u_ws C0 T N, w ∈ BIG) (ty0 : Nat → FieldType) (hty : ∀ k, k < N → parseFieldDescriptor (T k).2.2.1 = some (ty0 k)) (hc : vwCl[ci]? = some (C0, T, N)) (hcl : Cond.classLink own idx C0 ∈ BIG) (hinst : Cond.instantiable C0 N ∈ BIG) (hini : Cond.initialized C0 ∈ BIG) {fs : List Value} (hfs : ∀ j, j < N → defaultValue (ty0 j) = vp_V fs j) (hcells : cells + 1 ≤ R.cells) (hslots : slots + N ≤ R.slots) (hS : va_S A s.heap H locs) (hdg : decode cc pc = .ok (.new idx, 3))
    (kk : ∀ (H1 : Heap), zAt Z H1 H.size (.inr (ci, fs)) → H1.size = H.size + 1 → (∀ q, q < H.size → H1[q]? = H[q]?) → va_S A s.heap H1 locs → W p l e R s m args below meth c H1 locs (cells + 1) (slots + N) Q (F0 m (pc + 3) ls (.ref H.size :: rest))) : W p l e R s m args below meth c H locs cells slots Q (F0 m pc ls rest) := by
  have hKn := C.2.2.2.2.2.1.1 ci _ hc
  refine W.newcK C.1 C.2.1 C.2.2.2.1 (C.2.2.2.2.1 _ hcl) (C.2.2.2.2.1 _ hinst) (C.2.2.2.2.1 _ hini) rfl hdg hcells hslots hKn.2.1 rfl fun H1 kC hkC e1 z1 o1 => ?_
  exact kk H1 ⟨_, hc, (u_born ty0 C.2.2.2.2.1 hin hKn hkC e1 hty).to hfs⟩ z1 o1 ⟨Nat.le_trans hS.1 (by omega), fun x h1 h2 => (o1 x (Nat.lt_of_lt_of_le h1 hS.1)).trans (hS.2.1 x h1 h2), hS.2.2⟩
theorem z_objI (C : zC Z A p s m args meth c cc nL own ret) {idx : Nat} (hlink : Cond.methodLink own idx Lib.objectInit ∈ BIG) (hsz : ls.size = nL) (hW : (rest.map fun v => v.category).sum ≤ 8) (hR : 1 ≤ R.frames ∧ 20 ≤ R.locals) (hdg : decode cc pc = .ok (.invokespecial idx, 3)) {b : Nat}
    (kk : W p l e R s m args below meth c H locs cells slots Q (F0 m (pc + 3) ls rest)) : W p l e R s m args below meth c H locs cells slots Q (F0 m pc ls (.ref b :: rest)) :=
  W.objInit C.1 C.2.1 C.2.2.2.1 (C.2.2.2.2.1 _ hlink) (C.2.2.2.2.1 _ zw_1_10) (C.2.2.2.2.1 _ zw_1_11) rfl (hsz.trans C.2.2.1.symm) rfl hdg hR.1 (by show 2 * 0 + _ + 12 ≤ _; omega) kk
end CN
/-- an error in a walk that has written more -/
def gE (Z : zT) (H : Heap) (ad : Nat → Nat) (X : List (Nat × va_E)) (τ : mS) (xs fs : List Nat) (r w : Nat) : Prop := ∃ τ' : mS, isC Z H ad τ' X ∧ chg xs fs τ τ' ∧ τ'.1 8 = zI (r : Int) ∧ τ'.1 9 = zI (w : Int)
def adL (F : Nat → Nat) (n q : Nat) : Nat := if B1 F n (q : Int) = 1 then B2 F n ((q + 1 : Nat) : Int) else 0
def adP (F : Nat → Nat) (n : Nat) (τ τ' : mS) (k q : Nat) : Prop := chg [] [4, 5, 6] τ τ' ∧ τ'.2.1 4 = upd (τ.2.1 4) k (zI (q : Int)) ∧ τ'.2.1 5 = upd (τ.2.1 5) k (zI (B1 F n (q : Int) : Int)) ∧ τ'.2.1 6 = upd (τ.2.1 6) k (zI (adL F n q : Int))
theorem adP_mk {F : Nat → Nat} {n k q v : Nat} {τ : mS} (h : v = adL F n q) : adP F n τ (sf (sf (sf τ 4 (upd (τ.2.1 4) k (zI (q : Int)))) 5 (upd ((sf τ 4 (upd (τ.2.1 4) k (zI (q : Int)))).2.1 5) k (zI (B1 F n (q : Int) : Int)))) 6 (upd ((sf (sf τ 4 (upd (τ.2.1 4) k (zI (q : Int)))) 5 (upd ((sf τ 4 (upd (τ.2.1 4) k (zI (q : Int)))).2.1 5) k (zI (B1 F n (q : Int) : Int)))).2.1 6) k (zI (v : Int)))) k q := by
  subst h
  refine ⟨chg_sf (by decide) (chg_sf (by decide) (chg_sf (by decide) chg.rf)), ?_, ?_, ?_⟩
  · rw [sf_no _ _ (by decide), sf_no _ _ (by decide), sf_at]
  · rw [sf_no _ _ (by decide), sf_at, sf_no _ _ (by decide)]
  · rw [sf_at, sf_no _ _ (by decide), sf_no _ _ (by decide)]
theorem cPl.add {F tb : Nat → Nat} {n pc k q q' : Nat} {τ τ' : mS} (h : cPl τ F tb pc) (a : adP F n τ τ' k q) (hq : 10 ≤ q) (e : pEn F n q q') : cPl τ' F (va_up tb k q) pc := by
  obtain ⟨a1, a2, a3, a4⟩ := a
  refine ⟨by rw [a1.1 1 (by decide)]; exact h.1, h.2.1, fun j hj => ?_⟩
  rw [a2, a3, a4]
  obtain ⟨b1, b2, b3⟩ := h.2.2 j hj
  by_cases z : j = k
  · subst z
    have hB : B1 F n (q : Int) = F q := B1_in (by have := e.1; omega)
    have t1 : tg F (va_up tb j q) j = F q := by unfold tg; rw [va_up_self, if_neg (by omega)]
    refine ⟨by rw [va_up_self]; exact upd_2, by rw [t1, ← hB]; exact upd_2, ?_⟩
    have t2 : lnE F (va_up tb j q) j = adL F n q := by
      unfold lnE adL
      rw [t1, hB]
      by_cases y : F q = 1
      · rw [if_pos y, if_pos y]
        have := (e.2.2.2.1 y).2.2.1
        rw [B2_in (by omega)]
        show U2 F (va_up tb j q j + 1) = _
        rw [va_up_self]
      · rw [if_neg y, if_neg y]
    rw [t2]; exact upd_2
  · have t0 : va_up tb k q j = tb j := va_up_ne _ _ z
    have t1 : tg F (va_up tb k q) j = tg F tb j := by unfold tg; rw [t0]
    have t2 : lnE F (va_up tb k q) j = lnE F tb j := by unfold lnE; rw [t1]; show (if _ then U2 F (va_up tb k q j + 1) else 0) = _; rw [t0]
    rw [upd_ne z, upd_ne z, upd_ne z, t0, t1, t2]
    exact ⟨b1, b2, b3⟩

set_option maxHeartbeats 4000000 in
set_option maxRecDepth 20000 in
theorem c_X7_add (l : Launch) (Z : zT) {H : Heap} {ad : Nat → Nat} {τ : mS} {X : List (Nat × va_E)} (hM : isC Z H ad τ X) {F : Nat → Nat} {n : Nat} (hB : cSrc τ F n) {k q : Nat} (hk : k < 500) (hq : q ≤ n) : zM l Z yX7_add cX7_add 4 none (rmk 2) [.ref (ad 3), zN k, zN q] H (cA ad) 0 0 (fun v H' => v = none ∧ ∃ τ' : mS, isC Z H' ad τ' X ∧ adP F n τ τ' k q) := by
  have hn := hB.2.2.2
  refine zM.introV (own := RX7) ⟨by decide, rfl⟩ (Nat.le_of_ble_eq_true rfl) ?_
  intro p e s m args below meth c Q ls hH C hnm hl hret
  have hS : va_S (cA ad) s.heap H [] := by rw [hH]; exact va_S.rf
  have hl : lv_has ls 4 [(0, .ref (ad 3)), (1, zN k), (2, zN q)] := hl
  refine lv_aload_n C.1 C.2.1 dX7_add_0 rfl (lv_at hl 0 rfl) ?_
  refine z_get C (v := .ref (ad 1)) hM.pol rfl bi_wsX70 0 (by decide) zw_4_1 rfl rfl dX7_add_1 ?_
  refine lv_iload_n C.1 C.2.1 dX7_add_4 rfl (lv_at hl 2 rfl) ?_
  refine z_readV C (As := [zN q]) (rest := []) (c_X1_u1 l Z hM hB ((q : Nat) : Int) (by omega)) hM.byt rfl ⟨⟨zw_9_12, zw_2_15, zw_10_17⟩, zd_X1_u1⟩ zw_9_10 zw_9_11 ⟨Nat.le_of_ble_eq_true rfl, Nat.le_of_ble_eq_true rfl⟩ ⟨rfl, rfl⟩ rfl hl.1 rfl (Nat.le_of_ble_eq_true rfl) dX7_add_5 ⟨Nat.zero_le _, Nat.zero_le _⟩ hS (fun locs hS => ?_)
  have hq5 := B1_lt hB.1 n ((q : Nat) : Int)
  refine lv_istore_n (lv' := [(3, zN (B1 F n ((q : Nat) : Int))), (0, .ref (ad 3)), (1, zN k), (2, zN q)]) C.1 C.2.1 dX7_add_8 rfl hl (by decide) rfl (fun ls hl => ?_)
  refine lv_aload_n C.1 C.2.1 dX7_add_9 rfl (lv_at hl 1 rfl) ?_
  refine z_get C (v := .ref (ad 4)) hM.pol rfl bi_wsX70 1 (by decide) zw_4_2 rfl rfl dX7_add_10 ?_
  refine lv_iload_n C.1 C.2.1 dX7_add_13 rfl (lv_at hl 2 rfl) ?_
  refine lv_iload_n C.1 C.2.1 dX7_add_14 rfl (lv_at hl 3 rfl) ?_
  refine z_callSN C (As := [.ref (ad 4), zN k, zN q]) (rest := []) (c_put l Z hM 4 (by decide) k rfl (by show _ < 500; omega) (zI ((q : Nat) : Int))) ⟨⟨zw_10_12, zw_1_2⟩, zd_X11_put⟩ (by decide) zw_10_11 ⟨Nat.le_of_ble_eq_true rfl, Nat.le_of_ble_eq_true rfl⟩ ⟨rfl, rfl⟩ rfl hl.1 rfl (Nat.le_of_ble_eq_true rfl) dX7_add_15 ⟨Nat.zero_le _, Nat.zero_le _⟩ hS (fun _ h => ⟨4, by decide, h⟩) (fun v H locs hp hS _ _ => ?_)
  obtain ⟨rfl, hM⟩ := hp
  have hB : cSrc (sf τ 4 (upd (τ.2.1 4) k (zI ((q : Nat) : Int)))) F n := hB.sf (by decide)
  refine lv_aload_n C.1 C.2.1 dX7_add_18 rfl (lv_at hl 1 rfl) ?_
  refine z_get C (v := .ref (ad 5)) hM.pol rfl bi_wsX70 2 (by decide) zw_4_3 rfl rfl dX7_add_19 ?_
  refine lv_iload_n C.1 C.2.1 dX7_add_22 rfl (lv_at hl 2 rfl) ?_
  refine lv_iload_n C.1 C.2.1 dX7_add_23 rfl (lv_at hl 0 rfl) ?_
  refine z_callSN C (As := [.ref (ad 5), zN k, zN (B1 F n ((q : Nat) : Int))]) (rest := []) (c_put l Z hM 5 (by decide) k rfl (by show _ < 500; omega) (zI ((B1 F n ((q : Nat) : Int) : Nat) : Int))) ⟨⟨zw_10_12, zw_1_2⟩, zd_X11_put⟩ (by decide) zw_10_11 ⟨Nat.le_of_ble_eq_true rfl, Nat.le_of_ble_eq_true rfl⟩ ⟨rfl, rfl⟩ rfl hl.1 rfl (Nat.le_of_ble_eq_true rfl) dX7_add_24 ⟨Nat.zero_le _, Nat.zero_le _⟩ hS (fun _ h => ⟨5, by decide, h⟩) (fun v H locs hp hS _ _ => ?_)
  obtain ⟨rfl, hM⟩ := hp
  have hB : cSrc (sf (sf τ 4 (upd (τ.2.1 4) k (zI ((q : Nat) : Int)))) 5 (upd ((sf τ 4 (upd (τ.2.1 4) k (zI ((q : Nat) : Int)))).2.1 5) k (zI ((B1 F n ((q : Nat) : Int) : Nat) : Int)))) F n := hB.sf (by decide)
  refine lv_aload_n C.1 C.2.1 dX7_add_27 rfl (lv_at hl 1 rfl) ?_
  refine z_get C (v := .ref (ad 6)) hM.pol rfl bi_wsX70 3 (by decide) zw_4_4 rfl rfl dX7_add_28 ?_
  refine lv_iload_n C.1 C.2.1 dX7_add_31 rfl (lv_at hl 2 rfl) ?_
  refine lv_iload_n C.1 C.2.1 dX7_add_32 rfl (lv_at hl 0 rfl) ?_
  refine lv_iconst (v := zI 1) C.1 C.2.1 dX7_add_33 (by decide) ?_
  refine y_icmp_ne (tgt := 50) C (a := ((B1 F n ((q : Nat) : Int) : Nat) : Int)) (b := 1) dX7_add_34 (by decide) (by omega) (fun h34 => ?_) (fun h34 => ?_)
  · refine lv_iconst (v := zI 0) C.1 C.2.1 dX7_add_50 (by decide) ?_
    refine z_callSN C (As := [.ref (ad 6), zN k, zN 0]) (rest := []) (c_put l Z hM 6 (by decide) k rfl (by show _ < 500; omega) (zI 0)) ⟨⟨zw_10_12, zw_1_2⟩, zd_X11_put⟩ (by decide) zw_10_11 ⟨Nat.le_of_ble_eq_true rfl, Nat.le_of_ble_eq_true rfl⟩ ⟨rfl, rfl⟩ rfl hl.1 rfl (Nat.le_of_ble_eq_true rfl) dX7_add_51 ⟨Nat.zero_le _, Nat.zero_le _⟩ hS (fun _ h => ⟨6, by decide, h⟩) (fun v H locs hp hS _ _ => ?_)
    obtain ⟨rfl, hM⟩ := hp
    have hB : cSrc (sf (sf (sf τ 4 (upd (τ.2.1 4) k (zI ((q : Nat) : Int)))) 5 (upd ((sf τ 4 (upd (τ.2.1 4) k (zI ((q : Nat) : Int)))).2.1 5) k (zI ((B1 F n ((q : Nat) : Int) : Nat) : Int)))) 6 (upd ((sf (sf τ 4 (upd (τ.2.1 4) k (zI ((q : Nat) : Int)))) 5 (upd ((sf τ 4 (upd (τ.2.1 4) k (zI ((q : Nat) : Int)))).2.1 5) k (zI ((B1 F n ((q : Nat) : Int) : Nat) : Int)))).2.1 6) k (zI 0))) F n := hB.sf (by decide)
    exact hret _ _ _ _ hS ⟨rfl, _, hM, adP_mk (by unfold adL; rw [if_neg (by omega)])⟩ dX7_add_54
  · refine lv_aload_n C.1 C.2.1 dX7_add_37 rfl (lv_at hl 1 rfl) ?_
    refine z_get C (v := .ref (ad 1)) hM.pol rfl bi_wsX70 0 (by decide) zw_4_1 rfl rfl dX7_add_38 ?_
    refine lv_iload_n C.1 C.2.1 dX7_add_41 rfl (lv_at hl 3 rfl) ?_
    refine lv_iconst (v := zI 1) C.1 C.2.1 dX7_add_42 (by decide) ?_
    refine y_iaddN C (a := q) (b := 1) dX7_add_43 ?_
    refine z_readV C (As := [zN (q + 1)]) (rest := [zN k, .ref (ad 6)]) (c_X1_u2 l Z hM hB ((q + 1 : Nat) : Int) (by omega)) hM.byt rfl ⟨⟨zw_10_5, zw_2_15, zw_10_18⟩, zd_X1_u2⟩ zw_10_3 zw_10_4 ⟨Nat.le_of_ble_eq_true rfl, Nat.le_of_ble_eq_true rfl⟩ ⟨rfl, rfl⟩ rfl hl.1 rfl (Nat.le_of_ble_eq_true rfl) dX7_add_44 ⟨Nat.zero_le _, Nat.zero_le _⟩ hS (fun locs hS => ?_)
    refine lv_goto (tgt := 51) C.1 C.2.1 dX7_add_47 (by decide) ?_
    refine z_callSN C (As := [.ref (ad 6), zN k, zN (B2 F n ((q + 1 : Nat) : Int))]) (rest := []) (c_put l Z hM 6 (by decide) k rfl (by show _ < 500; omega) (zI ((B2 F n ((q + 1 : Nat) : Int) : Nat) : Int))) ⟨⟨zw_10_12, zw_1_2⟩, zd_X11_put⟩ (by decide) zw_10_11 ⟨Nat.le_of_ble_eq_true rfl, Nat.le_of_ble_eq_true rfl⟩ ⟨rfl, rfl⟩ rfl hl.1 rfl (Nat.le_of_ble_eq_true rfl) dX7_add_51 ⟨Nat.zero_le _, Nat.zero_le _⟩ hS (fun _ h => ⟨6, by decide, h⟩) (fun v H locs hp hS _ _ => ?_)
    obtain ⟨rfl, hM⟩ := hp
    have hB : cSrc (sf (sf (sf τ 4 (upd (τ.2.1 4) k (zI ((q : Nat) : Int)))) 5 (upd ((sf τ 4 (upd (τ.2.1 4) k (zI ((q : Nat) : Int)))).2.1 5) k (zI ((B1 F n ((q : Nat) : Int) : Nat) : Int)))) 6 (upd ((sf (sf τ 4 (upd (τ.2.1 4) k (zI ((q : Nat) : Int)))) 5 (upd ((sf τ 4 (upd (τ.2.1 4) k (zI ((q : Nat) : Int)))).2.1 5) k (zI ((B1 F n ((q : Nat) : Int) : Nat) : Int)))).2.1 6) k (zI ((B2 F n ((q + 1 : Nat) : Int) : Nat) : Int)))) F n := hB.sf (by decide)
    exact hret _ _ _ _ hS ⟨rfl, _, hM, adP_mk (by unfold adL; rw [if_pos (by omega)])⟩ dX7_add_54

def clZ (τ : mS) (j : Nat) : Prop := τ.2.1 4 j = zI 0 ∧ τ.2.1 5 j = zI 0 ∧ τ.2.1 6 j = zI 0 ∧ τ.2.1 7 j = zI 0 ∧ τ.2.1 8 j = zI 0 ∧ τ.2.1 9 j = zI 0 ∧ τ.2.1 10 j = zI (-1)
abbrev cl1 (τ : mS) (r i : Nat) (v : Int32) : mS := sf τ r (upd (τ.2.1 r) i v)
theorem cl1_at (τ : mS) (r i : Nat) (v : Int32) : (cl1 τ r i v).2.1 r = upd (τ.2.1 r) i v := sf_at τ r _
theorem cl1_no (τ : mS) {r j : Nat} (i : Nat) (v : Int32) (h : j ≠ r) : (cl1 τ r i v).2.1 j = τ.2.1 j := sf_no τ _ h
theorem clZ_s {τ : mS} {i : Nat} (hz : ∀ j, j < i → clZ τ j) : ∀ j, j < i + 1 → clZ (cl1 (cl1 (cl1 (cl1 (cl1 (cl1 (cl1 τ 4 i (zI ((0 : Nat) : Int))) 5 i (zI ((0 : Nat) : Int))) 6 i (zI ((0 : Nat) : Int))) 7 i (zI ((0 : Nat) : Int))) 8 i (zI ((0 : Nat) : Int))) 9 i (zI ((0 : Nat) : Int))) 10 i (zI (-1))) j := by
  intro j hj
  unfold clZ
  rw [cl1_no _ (j := 4) _ _ (by decide), cl1_no _ (j := 4) _ _ (by decide), cl1_no _ (j := 4) _ _ (by decide), cl1_no _ (j := 4) _ _ (by decide), cl1_no _ (j := 4) _ _ (by decide), cl1_no _ (j := 4) _ _ (by decide), cl1_at]
  rw [cl1_no _ (j := 5) _ _ (by decide), cl1_no _ (j := 5) _ _ (by decide), cl1_no _ (j := 5) _ _ (by decide), cl1_no _ (j := 5) _ _ (by decide), cl1_no _ (j := 5) _ _ (by decide), cl1_at, cl1_no _ (j := 5) _ _ (by decide)]
  rw [cl1_no _ (j := 6) _ _ (by decide), cl1_no _ (j := 6) _ _ (by decide), cl1_no _ (j := 6) _ _ (by decide), cl1_no _ (j := 6) _ _ (by decide), cl1_at, cl1_no _ (j := 6) _ _ (by decide), cl1_no _ (j := 6) _ _ (by decide)]
  rw [cl1_no _ (j := 7) _ _ (by decide), cl1_no _ (j := 7) _ _ (by decide), cl1_no _ (j := 7) _ _ (by decide), cl1_at, cl1_no _ (j := 7) _ _ (by decide), cl1_no _ (j := 7) _ _ (by decide), cl1_no _ (j := 7) _ _ (by decide)]
  rw [cl1_no _ (j := 8) _ _ (by decide), cl1_no _ (j := 8) _ _ (by decide), cl1_at, cl1_no _ (j := 8) _ _ (by decide), cl1_no _ (j := 8) _ _ (by decide), cl1_no _ (j := 8) _ _ (by decide), cl1_no _ (j := 8) _ _ (by decide)]
  rw [cl1_no _ (j := 9) _ _ (by decide), cl1_at, cl1_no _ (j := 9) _ _ (by decide), cl1_no _ (j := 9) _ _ (by decide), cl1_no _ (j := 9) _ _ (by decide), cl1_no _ (j := 9) _ _ (by decide), cl1_no _ (j := 9) _ _ (by decide)]
  rw [cl1_at, cl1_no _ (j := 10) _ _ (by decide), cl1_no _ (j := 10) _ _ (by decide), cl1_no _ (j := 10) _ _ (by decide), cl1_no _ (j := 10) _ _ (by decide), cl1_no _ (j := 10) _ _ (by decide), cl1_no _ (j := 10) _ _ (by decide)]
  by_cases z : j = i
  · subst z
    exact ⟨upd_2, upd_2, upd_2, upd_2, upd_2, upd_2, upd_2⟩
  · rw [upd_ne z, upd_ne z, upd_ne z, upd_ne z, upd_ne z, upd_ne z, upd_ne z]
    exact hz j (by omega)

set_option maxHeartbeats 4000000 in
set_option maxRecDepth 20000 in
theorem c_X7_clear (l : Launch) (Z : zT) {H : Heap} {ad : Nat → Nat} {τ : mS} {X : List (Nat × va_E)} (hM : isC Z H ad τ X) {k : Nat} (hk : k ≤ 500) : zM l Z yX7_clear cX7_clear 3 none (rmk 2) [.ref (ad 3), zN k] H (cA ad) 0 0 (fun v H' => v = none ∧ ∃ τ' : mS, isC Z H' ad τ' X ∧ chg [1] [4, 5, 6, 7, 8, 9, 10] τ τ' ∧ τ'.1 1 = zI (k : Int) ∧ ∀ j, j < k → clZ τ' j) := by
  refine zM.introV (own := RX7) ⟨by decide, rfl⟩ (Nat.le_of_ble_eq_true rfl) ?_
  intro p e s m args below meth c Q ls hH C hnm hl hret
  have hS : va_S (cA ad) s.heap H [] := by rw [hH]; exact va_S.rf
  have hl : lv_has ls 3 [(0, .ref (ad 3)), (1, zN k)] := hl
  refine lv_aload_n C.1 C.2.1 dX7_clear_0 rfl (lv_at hl 0 rfl) ?_
  refine lv_iload_n C.1 C.2.1 dX7_clear_1 rfl (lv_at hl 1 rfl) ?_
  refine z_put C (v := zN k) tyX7 hM.pol rfl bi_wsX70 tyX7_ok nmX7 8 (by decide) zw_4_9 rfl rfl rfl rfl (Nat.le_of_ble_eq_true rfl) hS (cA.k 3 (by decide)) dX7_clear_2 (fun H locs hu hn hS => ?_)
  have hM := hM.sx1 hu hn
  refine lv_iconst (v := zI 0) C.1 C.2.1 dX7_clear_5 (by decide) ?_
  refine lv_istore_n (lv' := [(2, zN 0), (0, .ref (ad 3)), (1, zN k)]) C.1 C.2.1 dX7_clear_6 rfl hl (by decide) rfl (fun ls hl => ?_)
  have loop : ∀ (fu : Nat) (i : Nat) (τ1 : mS) (H : Heap) (ls : Array Slot) (locs : List Loc), va_S (cA ad) s.heap H locs → isC Z H ad τ1 X → (i ≤ k ∧ k < i + fu) → (chg [1] [4, 5, 6, 7, 8, 9, 10] τ τ1) → (τ1.1 1 = zI (k : Int)) → (∀ j, j < i → clZ τ1 j) → lv_has ls 3 [(2, zN i), (0, .ref (ad 3)), (1, zN k)] → W p l e (rmk 2) s m args below meth c H locs 0 0 Q (F0 m 7 ls []) := by
    intro fu
    induction fu with
    | zero =>
      intro i τ1 H ls locs hS hM hi hc h1 hz hl
      omega
    | succ fu ih_loop =>
      intro i τ1 H ls locs hS hM hi hc h1 hz hl
      refine lv_iload_n C.1 C.2.1 dX7_clear_7 rfl (lv_at hl 0 rfl) ?_
      refine lv_iload_n C.1 C.2.1 dX7_clear_8 rfl (lv_at hl 2 rfl) ?_
      refine y_icmp_ge (tgt := 81) C (a := ((i : Nat) : Int)) (b := ((k : Nat) : Int)) dX7_clear_9 (by decide) (by omega) (fun h9 => ?_) (fun h9 => ?_)
      · exact hret _ _ _ _ hS ⟨rfl, τ1, hM, hc, h1, fun j hj => hz j (by omega)⟩ dX7_clear_81
      · refine lv_aload_n C.1 C.2.1 dX7_clear_12 rfl (lv_at hl 1 rfl) ?_
        refine z_get C (v := .ref (ad 4)) hM.pol rfl bi_wsX70 1 (by decide) zw_4_2 rfl rfl dX7_clear_13 ?_
        refine lv_iload_n C.1 C.2.1 dX7_clear_16 rfl (lv_at hl 0 rfl) ?_
        refine lv_iconst (v := zI 0) C.1 C.2.1 dX7_clear_17 (by decide) ?_
        refine z_callSN C (As := [.ref (ad 4), zN i, zN 0]) (rest := []) (c_put l Z hM 4 (by decide) i rfl (by show _ < 500; omega) (zI 0)) ⟨⟨zw_10_12, zw_1_2⟩, zd_X11_put⟩ (by decide) zw_10_11 ⟨Nat.le_of_ble_eq_true rfl, Nat.le_of_ble_eq_true rfl⟩ ⟨rfl, rfl⟩ rfl hl.1 rfl (Nat.le_of_ble_eq_true rfl) dX7_clear_18 ⟨Nat.zero_le _, Nat.zero_le _⟩ hS (fun _ h => ⟨4, by decide, h⟩) (fun v H locs hp hS _ _ => ?_)
        obtain ⟨rfl, hM⟩ := hp
        refine lv_aload_n C.1 C.2.1 dX7_clear_21 rfl (lv_at hl 1 rfl) ?_
        refine z_get C (v := .ref (ad 5)) hM.pol rfl bi_wsX70 2 (by decide) zw_4_3 rfl rfl dX7_clear_22 ?_
        refine lv_iload_n C.1 C.2.1 dX7_clear_25 rfl (lv_at hl 0 rfl) ?_
        refine lv_iconst (v := zI 0) C.1 C.2.1 dX7_clear_26 (by decide) ?_
        refine z_callSN C (As := [.ref (ad 5), zN i, zN 0]) (rest := []) (c_put l Z hM 5 (by decide) i rfl (by show _ < 500; omega) (zI 0)) ⟨⟨zw_10_12, zw_1_2⟩, zd_X11_put⟩ (by decide) zw_10_11 ⟨Nat.le_of_ble_eq_true rfl, Nat.le_of_ble_eq_true rfl⟩ ⟨rfl, rfl⟩ rfl hl.1 rfl (Nat.le_of_ble_eq_true rfl) dX7_clear_27 ⟨Nat.zero_le _, Nat.zero_le _⟩ hS (fun _ h => ⟨5, by decide, h⟩) (fun v H locs hp hS _ _ => ?_)
        obtain ⟨rfl, hM⟩ := hp
        refine lv_aload_n C.1 C.2.1 dX7_clear_30 rfl (lv_at hl 1 rfl) ?_
        refine z_get C (v := .ref (ad 6)) hM.pol rfl bi_wsX70 3 (by decide) zw_4_4 rfl rfl dX7_clear_31 ?_
        refine lv_iload_n C.1 C.2.1 dX7_clear_34 rfl (lv_at hl 0 rfl) ?_
        refine lv_iconst (v := zI 0) C.1 C.2.1 dX7_clear_35 (by decide) ?_
        refine z_callSN C (As := [.ref (ad 6), zN i, zN 0]) (rest := []) (c_put l Z hM 6 (by decide) i rfl (by show _ < 500; omega) (zI 0)) ⟨⟨zw_10_12, zw_1_2⟩, zd_X11_put⟩ (by decide) zw_10_11 ⟨Nat.le_of_ble_eq_true rfl, Nat.le_of_ble_eq_true rfl⟩ ⟨rfl, rfl⟩ rfl hl.1 rfl (Nat.le_of_ble_eq_true rfl) dX7_clear_36 ⟨Nat.zero_le _, Nat.zero_le _⟩ hS (fun _ h => ⟨6, by decide, h⟩) (fun v H locs hp hS _ _ => ?_)
        obtain ⟨rfl, hM⟩ := hp
        refine lv_aload_n C.1 C.2.1 dX7_clear_39 rfl (lv_at hl 1 rfl) ?_
        refine z_get C (v := .ref (ad 7)) hM.pol rfl bi_wsX70 4 (by decide) zw_4_5 rfl rfl dX7_clear_40 ?_
        refine lv_iload_n C.1 C.2.1 dX7_clear_43 rfl (lv_at hl 0 rfl) ?_
        refine lv_iconst (v := zI 0) C.1 C.2.1 dX7_clear_44 (by decide) ?_
        refine z_callSN C (As := [.ref (ad 7), zN i, zN 0]) (rest := []) (c_put l Z hM 7 (by decide) i rfl (by show _ < 500; omega) (zI 0)) ⟨⟨zw_10_12, zw_1_2⟩, zd_X11_put⟩ (by decide) zw_10_11 ⟨Nat.le_of_ble_eq_true rfl, Nat.le_of_ble_eq_true rfl⟩ ⟨rfl, rfl⟩ rfl hl.1 rfl (Nat.le_of_ble_eq_true rfl) dX7_clear_45 ⟨Nat.zero_le _, Nat.zero_le _⟩ hS (fun _ h => ⟨7, by decide, h⟩) (fun v H locs hp hS _ _ => ?_)
        obtain ⟨rfl, hM⟩ := hp
        refine lv_aload_n C.1 C.2.1 dX7_clear_48 rfl (lv_at hl 1 rfl) ?_
        refine z_get C (v := .ref (ad 8)) hM.pol rfl bi_wsX70 5 (by decide) zw_4_6 rfl rfl dX7_clear_49 ?_
        refine lv_iload_n C.1 C.2.1 dX7_clear_52 rfl (lv_at hl 0 rfl) ?_
        refine lv_iconst (v := zI 0) C.1 C.2.1 dX7_clear_53 (by decide) ?_
        refine z_callSN C (As := [.ref (ad 8), zN i, zN 0]) (rest := []) (c_put l Z hM 8 (by decide) i rfl (by show _ < 500; omega) (zI 0)) ⟨⟨zw_10_12, zw_1_2⟩, zd_X11_put⟩ (by decide) zw_10_11 ⟨Nat.le_of_ble_eq_true rfl, Nat.le_of_ble_eq_true rfl⟩ ⟨rfl, rfl⟩ rfl hl.1 rfl (Nat.le_of_ble_eq_true rfl) dX7_clear_54 ⟨Nat.zero_le _, Nat.zero_le _⟩ hS (fun _ h => ⟨8, by decide, h⟩) (fun v H locs hp hS _ _ => ?_)
        obtain ⟨rfl, hM⟩ := hp
        refine lv_aload_n C.1 C.2.1 dX7_clear_57 rfl (lv_at hl 1 rfl) ?_
        refine z_get C (v := .ref (ad 9)) hM.pol rfl bi_wsX70 6 (by decide) zw_4_7 rfl rfl dX7_clear_58 ?_
        refine lv_iload_n C.1 C.2.1 dX7_clear_61 rfl (lv_at hl 0 rfl) ?_
        refine lv_iconst (v := zI 0) C.1 C.2.1 dX7_clear_62 (by decide) ?_
        refine z_callSN C (As := [.ref (ad 9), zN i, zN 0]) (rest := []) (c_put l Z hM 9 (by decide) i rfl (by show _ < 500; omega) (zI 0)) ⟨⟨zw_10_12, zw_1_2⟩, zd_X11_put⟩ (by decide) zw_10_11 ⟨Nat.le_of_ble_eq_true rfl, Nat.le_of_ble_eq_true rfl⟩ ⟨rfl, rfl⟩ rfl hl.1 rfl (Nat.le_of_ble_eq_true rfl) dX7_clear_63 ⟨Nat.zero_le _, Nat.zero_le _⟩ hS (fun _ h => ⟨9, by decide, h⟩) (fun v H locs hp hS _ _ => ?_)
        obtain ⟨rfl, hM⟩ := hp
        refine lv_aload_n C.1 C.2.1 dX7_clear_66 rfl (lv_at hl 1 rfl) ?_
        refine z_get C (v := .ref (ad 10)) hM.pol rfl bi_wsX70 7 (by decide) zw_4_8 rfl rfl dX7_clear_67 ?_
        refine lv_iload_n C.1 C.2.1 dX7_clear_70 rfl (lv_at hl 0 rfl) ?_
        refine lv_iconst (v := zI (-1)) C.1 C.2.1 dX7_clear_71 (by decide) ?_
        refine z_callSN C (As := [.ref (ad 10), zN i, zV (-1)]) (rest := []) (c_put l Z hM 10 (by decide) i rfl (by show _ < 500; omega) (zI (-1))) ⟨⟨zw_10_12, zw_1_2⟩, zd_X11_put⟩ (by decide) zw_10_11 ⟨Nat.le_of_ble_eq_true rfl, Nat.le_of_ble_eq_true rfl⟩ ⟨rfl, rfl⟩ rfl hl.1 rfl (Nat.le_of_ble_eq_true rfl) dX7_clear_72 ⟨Nat.zero_le _, Nat.zero_le _⟩ hS (fun _ h => ⟨10, by decide, h⟩) (fun v H locs hp hS _ _ => ?_)
        obtain ⟨rfl, hM⟩ := hp
        refine lv_iinc (v := zI ((i + 1 : Nat) : Int)) (lv' := [(2, zN (i + 1)), (0, .ref (ad 3)), (1, zN k)]) C.1 C.2.1 dX7_clear_75 hl (k := 0) rfl (zI_add _ _) (by decide) rfl (fun ls hl => ?_)
        refine lv_goto (tgt := 7) C.1 C.2.1 dX7_clear_78 (by decide) ?_
        exact ih_loop (i + 1) _ _ ls _ hS hM (by omega) (chg_sf (by decide) (chg_sf (by decide) (chg_sf (by decide) (chg_sf (by decide) (chg_sf (by decide) (chg_sf (by decide) (chg_sf (by decide) hc))))))) h1 (clZ_s hz) hl
  exact loop (k + 1) 0 _ _ ls _ hS hM (by omega) (chg_sx (by decide) chg.rf) rfl (fun j hj => by omega) hl

set_option maxHeartbeats 4000000 in
set_option maxRecDepth 20000 in
theorem c_is1 (l : Launch) (Z : zT) {H : Heap} {ad : Nat → Nat} {τ : mS} {X : List (Nat × va_E)} (hM : isC Z H ad τ X) {pc : Nat} (hx1 : τ.1 1 = zI (pc : Int)) (hpc : pc ≤ 500) (k : Nat) (hk : 1 ≤ k ∧ k < pc) {w : Nat} (hw : w < 256) (hx5 : τ.2.1 5 k = zI (w : Int)) (sn : Nat) (hs : sn < 256) : zP l Z yX7_is cX7_is 3 (some .boolean) (rmk 2) [.ref (ad 3), zN sn, zN k] H (zV (bI (decide (w = sn)))) := by
  refine zM.introI (own := RX7) ⟨by decide, rfl⟩ (Nat.le_of_ble_eq_true rfl) ?_
  intro p e s m args below meth c Q ls hH C hl hret
  have hS : va_S (fun _ => False) s.heap H [] := by rw [hH]; exact va_S.rf
  have hl : lv_has ls 3 [(0, .ref (ad 3)), (1, zN sn), (2, zN k)] := hl
  refine lv_iload_n C.1 C.2.1 dX7_is_0 rfl (lv_at hl 2 rfl) ?_
  refine y_if_le (tgt := 28) C (a := ((k : Nat) : Int)) dX7_is_1 (by decide) (by omega) (fun h1 => ?_) (fun h1 => ?_)
  · refine lv_iconst (v := zI 0) C.1 C.2.1 dX7_is_28 (by decide) ?_
    exact hret _ _ _ _ (zI 0) hS ⟨congrArg (fun x : Int => some (zV x)) (bI_0 (decide_eq_false (by omega))), rfl⟩ rfl dX7_is_29
  · refine lv_iload_n C.1 C.2.1 dX7_is_4 rfl (lv_at hl 2 rfl) ?_
    refine lv_aload_n C.1 C.2.1 dX7_is_5 rfl (lv_at hl 0 rfl) ?_
    refine z_get C (v := .int (τ.1 1)) hM.pol rfl bi_wsX70 8 (by decide) zw_4_9 rfl rfl dX7_is_6 ?_
    refine z_re (y := zI ((pc : Nat) : Int)) hx1 ?_
    refine y_icmp_ge (tgt := 28) C (a := ((k : Nat) : Int)) (b := ((pc : Nat) : Int)) dX7_is_9 (by decide) (by omega) (fun h9 => ?_) (fun h9 => ?_)
    · refine lv_iconst (v := zI 0) C.1 C.2.1 dX7_is_28 (by decide) ?_
      exact hret _ _ _ _ (zI 0) hS ⟨congrArg (fun x : Int => some (zV x)) (bI_0 (decide_eq_false (by omega))), rfl⟩ rfl dX7_is_29
    · refine lv_aload_n C.1 C.2.1 dX7_is_12 rfl (lv_at hl 0 rfl) ?_
      refine z_get C (v := .ref (ad 5)) hM.pol rfl bi_wsX70 2 (by decide) zw_4_3 rfl rfl dX7_is_13 ?_
      refine lv_iload_n C.1 C.2.1 dX7_is_16 rfl (lv_at hl 2 rfl) ?_
      refine z_readSN C (As := [.ref (ad 5), zN k]) (rest := []) (c_at l Z (hM.row 5 (by decide)) (by decide) k rfl (by show _ < 500; omega)) ⟨⟨zw_11_13, zw_1_2⟩, zd_X11_at⟩ (by decide) zw_11_12 ⟨Nat.le_of_ble_eq_true rfl, Nat.le_of_ble_eq_true rfl⟩ ⟨rfl, rfl⟩ rfl hl.1 rfl (Nat.le_of_ble_eq_true rfl) dX7_is_17 ⟨Nat.zero_le _, Nat.zero_le _⟩ hS (fun locs hS => ?_)
      refine z_re (y := zI ((w : Nat) : Int)) hx5 ?_
      refine lv_iload_n C.1 C.2.1 dX7_is_20 rfl (lv_at hl 1 rfl) ?_
      refine y_icmp_ne (tgt := 28) C (a := ((w : Nat) : Int)) (b := ((sn : Nat) : Int)) dX7_is_21 (by decide) (by omega) (fun h21 => ?_) (fun h21 => ?_)
      · refine lv_iconst (v := zI 0) C.1 C.2.1 dX7_is_28 (by decide) ?_
        exact hret _ _ _ _ (zI 0) hS ⟨congrArg (fun x : Int => some (zV x)) (bI_0 (decide_eq_false (by omega))), rfl⟩ rfl dX7_is_29
      · refine lv_iconst (v := zI 1) C.1 C.2.1 dX7_is_24 (by decide) ?_
        refine lv_goto (tgt := 29) C.1 C.2.1 dX7_is_25 (by decide) ?_
        exact hret _ _ _ _ (zI 1) hS ⟨congrArg (fun x : Int => some (zV x)) (bI_1 (decide_eq_true (by omega))), rfl⟩ rfl dX7_is_29

theorem uS_ok {F : Nat → Nat} {en ru p lo hi rl q : Nat} (h : uS F en ru p lo hi rl = .ok q) : q = p + 2 ∧ p + 2 ≤ en ∧ lo ≤ U2 F p ∧ U2 F p ≤ hi := by
  unfold uS at h
  by_cases a : p + 2 ≤ en
  · rw [if_pos a] at h
    by_cases b : lo ≤ U2 F p ∧ U2 F p ≤ hi
    · rw [if_pos b] at h; cases h; exact ⟨rfl, a, b.1, b.2⟩
    · rw [if_neg b] at h; exact absurd h (by simp)
  · rw [if_neg a] at h; exact absurd h (by simp)

theorem uS_pl {F : Nat → Nat} {n r w : Nat} (h : uS F n 2 8 1 500 5 = .error (r, w)) : xPl F n = .error (r, w) := by
  unfold uS at h
  unfold xPl
  by_cases a : 8 + 2 ≤ n
  · rw [if_pos a] at h
    rw [if_pos a]
    by_cases b : 1 ≤ U2 F 8 ∧ U2 F 8 ≤ 500
    · rw [if_pos b] at h; exact absurd h (by simp)
    · rw [if_neg b] at h; rw [if_neg b]; cases h; rfl
  · rw [if_neg a] at h
    rw [if_neg a]; cases h; rfl

set_option maxHeartbeats 4000000 in
set_option maxRecDepth 20000 in
theorem c_X4_behindPool (l : Launch) (Z : zT) {H : Heap} {ad : Nat → Nat} {τ : mS} {X : List (Nat × va_E)} (hM : isC Z H ad τ X) {F : Nat → Nat} {n : Nat} (hB : cSrc τ F n) {t en ru : Nat} (he1 : en = n) (hr1 : ru = 2) (hX : (t, stE ad en ru) ∈ X) : zM l Z yX4_behindPool cX4_behindPool 5 (some .int) (rmk 5) [.ref t, .ref (ad 3), zN 8] H (cA ad) 0 0 (fun v H' => (∃ q tb, xPl F n = .ok (q, tb) ∧ v = some (zN q) ∧ q ≤ n ∧ ∃ τ' : mS, isC Z H' ad τ' X ∧ chg [1] [4, 5, 6, 7, 8, 9, 10] τ τ' ∧ cPl τ' F tb (U2 F 8) ∧ ∀ j, j < U2 F 8 → τ'.2.1 8 j = zI 0 ∧ τ'.2.1 9 j = zI 0) ∨ (∃ r w, xPl F n = .error (r, w) ∧ v = some (zV (-1)) ∧ gE Z H' ad X τ [1, 8, 9] [4, 5, 6, 7, 8, 9, 10] r w)) := by
  have hn := hB.2.2.2
  have hen : en ≤ 16000 := by omega
  refine zM.introI (own := RX4) ⟨by decide, rfl⟩ (Nat.le_of_ble_eq_true rfl) ?_
  intro p e s m args below meth c Q ls hH C hl hret
  have hS : va_S (cA ad) s.heap H [] := by rw [hH]; exact va_S.rf
  have hl : lv_has ls 5 [(0, .ref t), (1, .ref (ad 3)), (2, zN 8)] := hl
  refine lv_aload_n C.1 C.2.1 dX4_behindPool_0 rfl (lv_at hl 0 rfl) ?_
  refine lv_iload_n C.1 C.2.1 dX4_behindPool_1 rfl (lv_at hl 2 rfl) ?_
  refine lv_iconst (v := zI 1) C.1 C.2.1 dX4_behindPool_2 (by decide) ?_
  refine lv_sipush (v := zI 500) C.1 C.2.1 dX4_behindPool_3 (by decide) ?_
  refine lv_iconst (v := zI 5) C.1 C.2.1 dX4_behindPool_6 (by decide) ?_
  refine z_callV C (As := [zN 8, zN 1, zN 500, zN 5]) (rest := []) (c_X8_behindU2 l Z hM hB hX (by omega) (k := 8) (lo := 1) (hi := 500) (rl := 5) (by omega) (by omega) (by omega) (by omega)) (hM.ex' hX) rfl ⟨⟨zw_9_20, zw_8_3, zw_9_17⟩, zd_X8_behindU2⟩ zw_9_18 zw_9_19 ⟨Nat.le_of_ble_eq_true rfl, Nat.le_of_ble_eq_true rfl⟩ ⟨rfl, rfl⟩ rfl hl.1 rfl (Nat.le_of_ble_eq_true rfl) dX4_behindPool_7 ⟨Nat.zero_le _, Nat.zero_le _⟩ hS (fun _ h => h) (fun v H locs hp hS _ _ => ?_)
  rcases hp with ⟨q7, e7, rfl, hM, hb7⟩ | ⟨r7, w7, e7, rfl, hM⟩
  · obtain ⟨hu1, hu2, hu3⟩ := uS_ok e7
    subst hu1
    refine lv_istore_n (lv' := [(3, zN (8 + 2)), (0, .ref t), (1, .ref (ad 3)), (2, zN 8)]) C.1 C.2.1 dX4_behindPool_10 rfl hl (by decide) rfl (fun ls hl => ?_)
    refine lv_iload_n C.1 C.2.1 dX4_behindPool_11 rfl (lv_at hl 0 rfl) ?_
    refine lv_iconst (v := zI (-1)) C.1 C.2.1 dX4_behindPool_12 (by decide) ?_
    refine y_icmp_ne (tgt := 18) C (a := ((8 + 2 : Nat) : Int)) (b := -1) dX4_behindPool_13 (by decide) (by omega) (fun h13 => ?_) (fun h13 => ?_)
    · refine lv_aload_n C.1 C.2.1 dX4_behindPool_18 rfl (lv_at hl 2 rfl) ?_
      refine lv_aload_n C.1 C.2.1 dX4_behindPool_19 rfl (lv_at hl 1 rfl) ?_
      refine z_get C (v := .ref (ad 1)) (hM.ex' hX) rfl bi_wsX80 0 (by decide) zw_9_4 rfl rfl dX4_behindPool_20 ?_
      refine lv_iload_n C.1 C.2.1 dX4_behindPool_23 rfl (lv_at hl 3 rfl) ?_
      refine z_readV C (As := [zN 8]) (rest := [.ref (ad 3)]) (c_u2 l Z hM hB 8 rfl (by omega)) hM.byt rfl ⟨⟨zw_10_5, zw_2_15, zw_10_6⟩, zd_X1_u2⟩ zw_10_3 zw_10_4 ⟨Nat.le_of_ble_eq_true rfl, Nat.le_of_ble_eq_true rfl⟩ ⟨rfl, rfl⟩ rfl hl.1 rfl (Nat.le_of_ble_eq_true rfl) dX4_behindPool_24 ⟨Nat.zero_le _, Nat.zero_le _⟩ hS (fun locs hS => ?_)
      have := U2_lt hB.1 8
      refine z_callV C (As := [zN (U2 F 8)]) (rest := []) (c_X7_clear l Z hM (k := U2 F 8) (by omega)) hM.pol rfl ⟨⟨zw_10_10, zw_2_19, zw_10_7⟩, zd_X7_clear⟩ zw_10_8 zw_10_9 ⟨Nat.le_of_ble_eq_true rfl, Nat.le_of_ble_eq_true rfl⟩ ⟨rfl, rfl⟩ rfl hl.1 rfl (Nat.le_of_ble_eq_true rfl) dX4_behindPool_27 ⟨Nat.zero_le _, Nat.zero_le _⟩ hS (fun _ h => h) (fun v H locs hp hS _ _ => ?_)
      obtain ⟨rfl, τ0, hM, hc0, hx1, hz⟩ := hp
      have hB := hB.chg hc0 (by decide) (by decide)
      refine lv_iconst (v := zI 1) C.1 C.2.1 dX4_behindPool_30 (by decide) ?_
      refine lv_istore (lv' := [(4, zN 1), (3, zN (8 + 2)), (0, .ref t), (1, .ref (ad 3)), (2, zN 8)]) C.1 C.2.1 dX4_behindPool_31 hl (by decide) rfl (fun ls hl => ?_)
      have loop : ∀ (fu : Nat) (k : Nat) (q : Nat) (cf : Nat) (tb : Nat → Nat) (τ1 : mS) (H : Heap) (ls : Array Slot) (locs : List Loc), va_S (cA ad) s.heap H locs → isC Z H ad τ1 X → (1 ≤ k ∧ k ≤ U2 F 8 + 1) → (10 ≤ q ∧ q ≤ n) → (cf + 1 = fu ∧ 501 ≤ k + cf) → (chg [1] [4, 5, 6, 7, 8, 9, 10] τ τ1) → (cSrc τ1 F n) → (cPl τ1 F tb (U2 F 8)) → (∀ j, j < U2 F 8 → τ1.2.1 8 j = zI 0 ∧ τ1.2.1 9 j = zI 0) → (xPool F n (U2 F 8) cf k q tb = xPl F n) → lv_has ls 5 [(4, zN k), (3, zN q), (0, .ref t), (1, .ref (ad 3)), (2, zN 8)] → W p l e (rmk 5) s m args below meth c H locs 0 0 Q (F0 m 33 ls []) := by
        intro fu
        induction fu with
        | zero =>
          intro k q cf tb τ1 H ls locs hS hM hk hq hcf hc hB hP h89 he hl
          (exact absurd hcf.1 (by omega))
        | succ fu ih_loop =>
          intro k q cf tb τ1 H ls locs hS hM hk hq hcf hc hB hP h89 he hl
          refine lv_iload C.1 C.2.1 dX4_behindPool_33 (lv_at hl 0 rfl) ?_
          refine lv_aload_n C.1 C.2.1 dX4_behindPool_35 rfl (lv_at hl 3 rfl) ?_
          refine z_get C (v := .int (τ1.1 1)) hM.pol rfl bi_wsX70 8 (by decide) zw_9_16 rfl rfl dX4_behindPool_36 ?_
          refine z_re (y := zI ((U2 F 8 : Nat) : Int)) hP.1 ?_
          refine y_icmp_ge (tgt := 79) C (a := ((k : Nat) : Int)) (b := ((U2 F 8 : Nat) : Int)) dX4_behindPool_39 (by decide) (by omega) (fun h39 => ?_) (fun h39 => ?_)
          · refine lv_iload_n C.1 C.2.1 dX4_behindPool_79 rfl (lv_at hl 1 rfl) ?_
            exact hret _ _ _ _ (zI ((q : Nat) : Int)) hS (Or.inl ⟨q, tb, (by rw [← he]; exact xPool_x (by omega)), rfl, hq.2, τ1, hM, hc, hP, h89⟩) rfl dX4_behindPool_80
          · have hpc : U2 F 8 ≤ 500 := hP.2.1
            refine lv_iload_n C.1 C.2.1 dX4_behindPool_42 rfl (lv_at hl 1 rfl) ?_
            refine lv_iconst (v := zI (-1)) C.1 C.2.1 dX4_behindPool_43 (by decide) ?_
            refine y_icmp_eq (tgt := 79) C (a := ((q : Nat) : Int)) (b := -1) dX4_behindPool_44 (by decide) (by omega) (fun h44 => ?_) (fun h44 => ?_)
            · exact False.elim (by first | omega | exact h44 rfl)
            · have hpc : U2 F 8 ≤ 500 := hP.2.1
              refine lv_aload_n C.1 C.2.1 dX4_behindPool_47 rfl (lv_at hl 3 rfl) ?_
              refine lv_iload C.1 C.2.1 dX4_behindPool_48 (lv_at hl 0 rfl) ?_
              refine lv_iload_n C.1 C.2.1 dX4_behindPool_50 rfl (lv_at hl 1 rfl) ?_
              refine z_callV C (As := [zN k, zN q]) (rest := []) (c_X7_add l Z hM hB (k := k) (q := q) (by omega) (by omega)) hM.pol rfl ⟨⟨zw_10_16, zw_2_19, zw_10_13⟩, zd_X7_add⟩ zw_10_14 zw_10_15 ⟨Nat.le_of_ble_eq_true rfl, Nat.le_of_ble_eq_true rfl⟩ ⟨rfl, rfl⟩ rfl hl.1 rfl (Nat.le_of_ble_eq_true rfl) dX4_behindPool_51 ⟨Nat.zero_le _, Nat.zero_le _⟩ hS (fun _ h => h) (fun v H locs hp hS _ _ => ?_)
              obtain ⟨rfl, τ2, hM, hA⟩ := hp
              have hB := hB.chg hA.1 (by decide) (by decide)
              refine lv_aload_n C.1 C.2.1 dX4_behindPool_54 rfl (lv_at hl 2 rfl) ?_
              refine lv_iload_n C.1 C.2.1 dX4_behindPool_55 rfl (lv_at hl 1 rfl) ?_
              refine z_callS C (As := [.ref t, zN q]) (rest := []) (c_X4_behindEntry l Z hM hB he1 hr1 hX (k := q) (by omega)) ⟨⟨zw_10_21, zw_7_23, zw_10_19⟩, zd_X4_behindEntry⟩ zw_10_20 ⟨Nat.le_of_ble_eq_true rfl, Nat.le_of_ble_eq_true rfl⟩ ⟨rfl, rfl⟩ rfl hl.1 rfl (Nat.le_of_ble_eq_true rfl) dX4_behindPool_56 ⟨Nat.zero_le _, Nat.zero_le _⟩ hS (fun _ h => h) (fun v H locs hp hS _ _ => ?_)
              rcases hp with ⟨q56, e56, rfl, hM, hb56⟩ | ⟨r56, w56, e56, rfl, hM⟩
              · have hpe := xEnt_p e56
                have hB1 : B1 F n (q : Int) = F q := B1_in (by have := hpe.1; omega)
                refine lv_istore_n (lv' := [(3, zN q56), (4, zN k), (0, .ref t), (1, .ref (ad 3)), (2, zN 8)]) C.1 C.2.1 dX4_behindPool_59 rfl hl (by decide) rfl (fun ls hl => ?_)
                refine lv_aload_n C.1 C.2.1 dX4_behindPool_60 rfl (lv_at hl 3 rfl) ?_
                refine lv_iconst (v := zI 5) C.1 C.2.1 dX4_behindPool_61 (by decide) ?_
                refine lv_iload C.1 C.2.1 dX4_behindPool_62 (lv_at hl 1 rfl) ?_
                refine z_readV C (As := [zN 5, zN k]) (rest := []) (c_is1 l Z hM ((hA.1.1 1 (by decide)).trans hP.1) hpc k (by omega) (w := B1 F n (q : Int)) (B1_lt hB.1 n _) (by first | (rw [hA.2.2.1]; exact upd_2) | (show τ2.2.1 5 k = _; rw [hA.2.2.1]; exact upd_2)) 5 (by decide)) hM.pol rfl ⟨⟨zw_11_11, zw_2_19, zw_11_8⟩, zd_X7_is⟩ zw_11_9 zw_11_10 ⟨Nat.le_of_ble_eq_true rfl, Nat.le_of_ble_eq_true rfl⟩ ⟨rfl, rfl⟩ rfl hl.1 rfl (Nat.le_of_ble_eq_true rfl) dX4_behindPool_64 ⟨Nat.zero_le _, Nat.zero_le _⟩ hS (fun locs hS => ?_)
                refine y_ifb_eq (tgt := 73) C dX4_behindPool_67 (by decide) (fun h67 => ?_) (fun h67 => ?_)
                · have h67 := of_decide_eq_false h67
                  refine lv_iinc (v := zI ((k + 1 : Nat) : Int)) (lv' := [(4, zN (k + 1)), (3, zN q56), (0, .ref t), (1, .ref (ad 3)), (2, zN 8)]) C.1 C.2.1 dX4_behindPool_73 hl (k := 1) rfl (zI_add _ _) (by decide) rfl (fun ls hl => ?_)
                  refine lv_goto (tgt := 33) C.1 C.2.1 dX4_behindPool_76 (by decide) ?_
                  exact ih_loop (k + 1) q56 (cf - 1) (va_up tb k q) _ _ ls _ hS hM (by omega) (by have := hpe.2.1; omega) (by omega) ((hc.tr (hA.1.mono (by decide) (by decide)))) hB (hP.add hA (by omega) hpe) (fun j hj => by rw [hA.1.2.1 8 (by decide), hA.1.2.1 9 (by decide)]; exact h89 j hj) (by rw [← he]; obtain ⟨c2, rfl⟩ : ∃ c2, cf = c2 + 1 := ⟨cf - 1, by omega⟩; rw [xPool_s (by omega) e56, if_neg (by omega)]; rfl) hl
                · have h67 := of_decide_eq_true h67
                  refine lv_iinc (v := zI ((k + 1 : Nat) : Int)) (lv' := [(4, zN (k + 1)), (3, zN q56), (0, .ref t), (1, .ref (ad 3)), (2, zN 8)]) C.1 C.2.1 dX4_behindPool_70 hl (k := 1) rfl (zI_add _ _) (by decide) rfl (fun ls hl => ?_)
                  refine lv_iinc (v := zI ((k + 1 + 1 : Nat) : Int)) (lv' := [(4, zN (k + 1 + 1)), (3, zN q56), (0, .ref t), (1, .ref (ad 3)), (2, zN 8)]) C.1 C.2.1 dX4_behindPool_73 hl (k := 0) rfl (zI_add _ _) (by decide) rfl (fun ls hl => ?_)
                  refine lv_goto (tgt := 33) C.1 C.2.1 dX4_behindPool_76 (by decide) ?_
                  exact ih_loop (k + 1 + 1) q56 (cf - 1) (va_up tb k q) _ _ ls _ hS hM (by omega) (by have := hpe.2.1; omega) (by omega) ((hc.tr (hA.1.mono (by decide) (by decide)))) hB (hP.add hA (by omega) hpe) (fun j hj => by rw [hA.1.2.1 8 (by decide), hA.1.2.1 9 (by decide)]; exact h89 j hj) (by rw [← he]; obtain ⟨c2, rfl⟩ : ∃ c2, cf = c2 + 1 := ⟨cf - 1, by omega⟩; rw [xPool_s (by omega) e56, if_pos (by omega)]; rfl) hl
              · skip
                refine lv_istore_n (lv' := [(3, zV (-1)), (4, zN k), (0, .ref t), (1, .ref (ad 3)), (2, zN 8)]) C.1 C.2.1 dX4_behindPool_59 rfl hl (by decide) rfl (fun ls hl => ?_)
                refine lv_aload_n C.1 C.2.1 dX4_behindPool_60 rfl (lv_at hl 3 rfl) ?_
                refine lv_iconst (v := zI 5) C.1 C.2.1 dX4_behindPool_61 (by decide) ?_
                refine lv_iload C.1 C.2.1 dX4_behindPool_62 (lv_at hl 1 rfl) ?_
                refine z_readV C (As := [zN 5, zN k]) (rest := []) (c_is1 l Z hM ((hA.1.1 1 (by decide)).trans hP.1) hpc k (by omega) (w := B1 F n (q : Int)) (B1_lt hB.1 n _) (by first | (rw [hA.2.2.1]; exact upd_2) | (show τ2.2.1 5 k = _; rw [hA.2.2.1]; exact upd_2)) 5 (by decide)) hM.pol rfl ⟨⟨zw_11_11, zw_2_19, zw_11_8⟩, zd_X7_is⟩ zw_11_9 zw_11_10 ⟨Nat.le_of_ble_eq_true rfl, Nat.le_of_ble_eq_true rfl⟩ ⟨rfl, rfl⟩ rfl hl.1 rfl (Nat.le_of_ble_eq_true rfl) dX4_behindPool_64 ⟨Nat.zero_le _, Nat.zero_le _⟩ hS (fun locs hS => ?_)
                refine y_ifb_eq (tgt := 73) C dX4_behindPool_67 (by decide) (fun h67 => ?_) (fun h67 => ?_)
                · have h67 := of_decide_eq_false h67
                  refine lv_iinc (v := zI ((k + 1 : Nat) : Int)) (lv' := [(4, zN (k + 1)), (3, zV (-1)), (0, .ref t), (1, .ref (ad 3)), (2, zN 8)]) C.1 C.2.1 dX4_behindPool_73 hl (k := 1) rfl (zI_add _ _) (by decide) rfl (fun ls hl => ?_)
                  refine lv_goto (tgt := 33) C.1 C.2.1 dX4_behindPool_76 (by decide) ?_
                  refine lv_iload C.1 C.2.1 dX4_behindPool_33 (lv_at hl 0 rfl) ?_
                  refine lv_aload_n C.1 C.2.1 dX4_behindPool_35 rfl (lv_at hl 3 rfl) ?_
                  refine z_get C (v := .int ((sx (sx τ2 8 (zI (r56 : Int))) 9 (zI (w56 : Int))).1 1)) hM.pol rfl bi_wsX70 8 (by decide) zw_9_16 rfl rfl dX4_behindPool_36 ?_
                  refine z_re (y := zI ((U2 F 8 : Nat) : Int)) ((hA.1.1 1 (by decide)).trans hP.1) ?_
                  refine y_icmp_ge (tgt := 79) C (a := ((k + 1 : Nat) : Int)) (b := ((U2 F 8 : Nat) : Int)) dX4_behindPool_39 (by decide) (by omega) (fun h39 => ?_) (fun h39 => ?_)
                  · refine lv_iload_n C.1 C.2.1 dX4_behindPool_79 rfl (lv_at hl 1 rfl) ?_
                    exact hret _ _ _ _ (zI (-1)) hS (Or.inr ⟨_, _, (by rw [← he]; obtain ⟨c2, rfl⟩ : ∃ c2, cf = c2 + 1 := ⟨cf - 1, by omega⟩; exact xPool_e (by omega) e56), rfl, _, hM, (chg_sx (by decide) (chg_sx (by decide) ((hc.tr (hA.1.mono (by decide) (by decide))).mono (by decide) (by decide) : chg [1, 8, 9] [4, 5, 6, 7, 8, 9, 10] τ τ2))), rfl, rfl⟩) rfl dX4_behindPool_80
                  · have hpc : U2 F 8 ≤ 500 := hP.2.1
                    refine lv_iload_n C.1 C.2.1 dX4_behindPool_42 rfl (lv_at hl 1 rfl) ?_
                    refine lv_iconst (v := zI (-1)) C.1 C.2.1 dX4_behindPool_43 (by decide) ?_
                    refine y_icmp_eq (tgt := 79) C (a := -1) (b := -1) dX4_behindPool_44 (by decide) (by omega) (fun h44 => ?_) (fun h44 => ?_)
                    · refine lv_iload_n C.1 C.2.1 dX4_behindPool_79 rfl (lv_at hl 1 rfl) ?_
                      exact hret _ _ _ _ (zI (-1)) hS (Or.inr ⟨_, _, (by rw [← he]; obtain ⟨c2, rfl⟩ : ∃ c2, cf = c2 + 1 := ⟨cf - 1, by omega⟩; exact xPool_e (by omega) e56), rfl, _, hM, (chg_sx (by decide) (chg_sx (by decide) ((hc.tr (hA.1.mono (by decide) (by decide))).mono (by decide) (by decide) : chg [1, 8, 9] [4, 5, 6, 7, 8, 9, 10] τ τ2))), rfl, rfl⟩) rfl dX4_behindPool_80
                    · exact False.elim (by first | omega | exact h44 rfl)
                · have h67 := of_decide_eq_true h67
                  refine lv_iinc (v := zI ((k + 1 : Nat) : Int)) (lv' := [(4, zN (k + 1)), (3, zV (-1)), (0, .ref t), (1, .ref (ad 3)), (2, zN 8)]) C.1 C.2.1 dX4_behindPool_70 hl (k := 1) rfl (zI_add _ _) (by decide) rfl (fun ls hl => ?_)
                  refine lv_iinc (v := zI ((k + 1 + 1 : Nat) : Int)) (lv' := [(4, zN (k + 1 + 1)), (3, zV (-1)), (0, .ref t), (1, .ref (ad 3)), (2, zN 8)]) C.1 C.2.1 dX4_behindPool_73 hl (k := 0) rfl (zI_add _ _) (by decide) rfl (fun ls hl => ?_)
                  refine lv_goto (tgt := 33) C.1 C.2.1 dX4_behindPool_76 (by decide) ?_
                  refine lv_iload C.1 C.2.1 dX4_behindPool_33 (lv_at hl 0 rfl) ?_
                  refine lv_aload_n C.1 C.2.1 dX4_behindPool_35 rfl (lv_at hl 3 rfl) ?_
                  refine z_get C (v := .int ((sx (sx τ2 8 (zI (r56 : Int))) 9 (zI (w56 : Int))).1 1)) hM.pol rfl bi_wsX70 8 (by decide) zw_9_16 rfl rfl dX4_behindPool_36 ?_
                  refine z_re (y := zI ((U2 F 8 : Nat) : Int)) ((hA.1.1 1 (by decide)).trans hP.1) ?_
                  refine y_icmp_ge (tgt := 79) C (a := ((k + 1 + 1 : Nat) : Int)) (b := ((U2 F 8 : Nat) : Int)) dX4_behindPool_39 (by decide) (by omega) (fun h39 => ?_) (fun h39 => ?_)
                  · refine lv_iload_n C.1 C.2.1 dX4_behindPool_79 rfl (lv_at hl 1 rfl) ?_
                    exact hret _ _ _ _ (zI (-1)) hS (Or.inr ⟨_, _, (by rw [← he]; obtain ⟨c2, rfl⟩ : ∃ c2, cf = c2 + 1 := ⟨cf - 1, by omega⟩; exact xPool_e (by omega) e56), rfl, _, hM, (chg_sx (by decide) (chg_sx (by decide) ((hc.tr (hA.1.mono (by decide) (by decide))).mono (by decide) (by decide) : chg [1, 8, 9] [4, 5, 6, 7, 8, 9, 10] τ τ2))), rfl, rfl⟩) rfl dX4_behindPool_80
                  · have hpc : U2 F 8 ≤ 500 := hP.2.1
                    refine lv_iload_n C.1 C.2.1 dX4_behindPool_42 rfl (lv_at hl 1 rfl) ?_
                    refine lv_iconst (v := zI (-1)) C.1 C.2.1 dX4_behindPool_43 (by decide) ?_
                    refine y_icmp_eq (tgt := 79) C (a := -1) (b := -1) dX4_behindPool_44 (by decide) (by omega) (fun h44 => ?_) (fun h44 => ?_)
                    · refine lv_iload_n C.1 C.2.1 dX4_behindPool_79 rfl (lv_at hl 1 rfl) ?_
                      exact hret _ _ _ _ (zI (-1)) hS (Or.inr ⟨_, _, (by rw [← he]; obtain ⟨c2, rfl⟩ : ∃ c2, cf = c2 + 1 := ⟨cf - 1, by omega⟩; exact xPool_e (by omega) e56), rfl, _, hM, (chg_sx (by decide) (chg_sx (by decide) ((hc.tr (hA.1.mono (by decide) (by decide))).mono (by decide) (by decide) : chg [1, 8, 9] [4, 5, 6, 7, 8, 9, 10] τ τ2))), rfl, rfl⟩) rfl dX4_behindPool_80
                    · exact False.elim (by first | omega | exact h44 rfl)
      exact loop 501 1 10 500 (fun _ => 0) _ _ ls _ hS hM (by omega) (by omega) (by omega) hc0 hB ⟨hx1, by omega, fun j hj => by obtain ⟨a1, a2, a3, -⟩ := hz j hj; exact ⟨a1, a2, a3⟩⟩ (fun j hj => by obtain ⟨-, -, -, -, a1, a2, -⟩ := hz j hj; exact ⟨a1, a2⟩) (by unfold xPl; rw [if_pos (by omega), if_pos (by omega)]) hl
    · exact False.elim (by first | omega | exact h13 rfl)
  · skip
    refine lv_istore_n (lv' := [(3, zV (-1)), (0, .ref t), (1, .ref (ad 3)), (2, zN 8)]) C.1 C.2.1 dX4_behindPool_10 rfl hl (by decide) rfl (fun ls hl => ?_)
    refine lv_iload_n C.1 C.2.1 dX4_behindPool_11 rfl (lv_at hl 0 rfl) ?_
    refine lv_iconst (v := zI (-1)) C.1 C.2.1 dX4_behindPool_12 (by decide) ?_
    refine y_icmp_ne (tgt := 18) C (a := -1) (b := -1) dX4_behindPool_13 (by decide) (by omega) (fun h13 => ?_) (fun h13 => ?_)
    · exact False.elim (by first | omega | exact h13 rfl)
    · refine lv_iconst (v := zI (-1)) C.1 C.2.1 dX4_behindPool_16 (by decide) ?_
      exact hret _ _ _ _ (zI (-1)) hS (Or.inr ⟨_, _, uS_pl (by rw [← e7, he1, hr1]), rfl, _, hM, (chg_sx (by decide) (chg_sx (by decide) chg.rf)), rfl, rfl⟩) rfl dX4_behindPool_17
