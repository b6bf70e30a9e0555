/-! the component: the layout -/
def kA (ad : Nat → Nat) (h0 : Nat) : Nat → Prop := fun q => cA ad q ∨ h0 ≤ q
section CN2
variable {p : Program} {l : Launch} {e : Env} {R : Room} {s : State} {m : MethodId} {args : Array Value} {below : List Frame} {meth : Method} {c : Code} {H : Heap} {locs : List Loc} {cells slots : Nat} {Q : State → Prop}
variable {Z : zT} {cc : ByteArray} {nL : Nat} {own : String} {ret : Option FieldType} {A : Nat → Prop} {pc : Nat} {ls : Array Slot} {rest st0 : List Value} {ad : Nat → Nat} {τ : mS} {X : List (Nat × va_E)} {H1 H2 : Heap}
theorem isC.lt (h : isC Z H ad τ X) {i : Nat} (hi : i < 40) : ad i < H.size := by
  rcases Nat.lt_or_ge i 16 with a | a
  · rcases (show i = 0 ∨ i = 1 ∨ i = 2 ∨ i = 3 ∨ i = 13 ∨ i = 15 ∨ (i = 4 ∨ i = 5 ∨ i = 6 ∨ i = 7 ∨ i = 8 ∨ i = 9 ∨ i = 10 ∨ i = 11 ∨ i = 12 ∨ i = 14) by omega) with z | z | z | z | z | z | z
    · subst z; exact h.img.lt
    · subst z; exact h.byt.lt
    · subst z; exact h.row0.lt
    · subst z; exact h.pol.lt
    · subst z; exact h.bds.lt
    · subst z; exact h.ver.lt
    · exact (h.row i (by rcases z with z | z | z | z | z | z | z | z | z | z <;> (subst z; decide))).lt
  · have := (h.bod (i - 16) (by omega)).lt
    rw [show 16 + (i - 16) = i by omega] at this
    exact this
/-- a new cell stands beside the world -/
theorem isC.addX (h : isC Z H ad τ X) {t : Nat} {e : va_E} (ht : t = H.size) (ho : ∀ q, q < H.size → H1[q]? = H[q]?) (hu : zUp H1 H2 t) (hq : zAt Z H2 t e) : isC Z H2 ad τ ((t, e) :: X) := by
  have K : ∀ q, q < H.size → H2[q]? = H[q]? := fun q hq => (hu.2 q (by omega)).trans (ho q hq)
  have h2 := h.keep (H1 := H2) (fun i hi => K _ (h.lt hi)) (fun q hq' => (h.ex hq').kept (K _ (h.ex hq').lt))
  obtain ⟨a1, a2, a3, a4, a5, a6, a7, a8, a9, a10⟩ := h2
  refine ⟨a1, a2, a3, a4, a5, a6, a7, a8, a9, fun q hq' => ?_⟩
  rcases List.mem_cons.mp hq' with z | z
  · subst z; exact ⟨hq, fun i hi => by have := h.lt hi; show ad i ≠ t; omega⟩
  · exact a10 q z
theorem isC.drop {x : Nat × va_E} (h : isC Z H ad τ (x :: X)) : isC Z H ad τ X := by
  obtain ⟨a1, a2, a3, a4, a5, a6, a7, a8, a9, a10⟩ := h
  exact ⟨a1, a2, a3, a4, a5, a6, a7, a8, a9, fun q hq' => a10 q (List.mem_cons_of_mem _ hq')⟩
/-- new Stretch(..): the object is made, its constructor run -/
theorem z_stretch {h0 : Nat} (C : zC Z (kA ad h0) p s m args meth c cc nL own ret) (hM : isC Z H ad τ X) {idx : Nat} (hcl : Cond.classLink own idx RX8 ∈ BIG) (hh : h0 ≤ H.size) (hcells : cells + 1 ≤ R.cells) (hslots : slots + 4 ≤ R.slots) (hS : va_S (kA ad h0) s.heap H locs) (hdg : decode cc pc = .ok (.new idx, 3))
    (kk : ∀ (t : Nat) (H0 H1 : Heap), t = H0.size → isC Z H0 ad τ X → zAt Z H1 t (.inr (5, [.null, .null, .int 0, .int 0])) → H1.size = t + 1 → h0 ≤ t → (∀ q, q < H0.size → H1[q]? = H0[q]?) → va_S (kA ad h0) s.heap H1 locs → W p l e R s m args below meth c H1 locs (cells + 1) (slots + 4) Q (F0 m (pc + 3) ls (.ref t :: rest))) : W p l e R s m args below meth c H locs cells slots Q (F0 m pc ls rest) :=
  z_new C bi_wsX80 tyX8 tyX8_ok (rfl : vwCl[5]? = some (RX8, TX8, 4)) hcl zw_8_2 zw_8_3 (fs := [.null, .null, .int 0, .int 0]) (fun j hj => match j, hj with | 0, _ => rfl | 1, _ => rfl | 2, _ => rfl | 3, _ => rfl) hcells hslots hS hdg (fun H1 a1 a2 a3 a4 => kk H.size H H1 rfl hM a1 a2 hh a3 a4)
end CN2
def lnQ (F tb : Nat → Nat) (τ : mS) : Prop := ∀ k, 1 ≤ k → k < U2 F 8 → tg F tb k = 1 → lnK F tb τ k
theorem lnQ.chg {F tb : Nat → Nat} {τ τ' : mS} {xs fs : List Nat} (h : lnQ F tb τ) (hc : chg xs fs τ τ') (h7 : 7 ∉ fs ∧ 8 ∉ fs ∧ 9 ∉ fs) : lnQ F tb τ' := fun k a b c => by
  unfold lnK
  rw [hc.2.1 7 h7.1, hc.2.1 8 h7.2.1, hc.2.1 9 h7.2.2]
  exact h k a b c
def cLay (τ : mS) (F : Nat → Nat) (tb : Nat → Nat) (cl nf nm : Nat) (mt : Nat → Nat) (fa last : Nat) : Prop :=
  cPl τ F tb (U2 F 8) ∧ lnQ F tb τ ∧ τ.1 2 = zI (nf : Int) ∧ τ.1 3 = zI (nm : Int) ∧ τ.1 4 = zI (cl : Int) ∧ τ.1 5 = zI (fa : Int) ∧ τ.1 6 = zI (last : Int) ∧ (∀ j, j < nf → τ.2.1 11 j = zI (mt j : Int)) ∧ ∀ j, j < nm → τ.2.1 12 j = zI (mt (nf + j) : Int)
def KX : List Nat := [1, 2, 3, 4, 5, 6]
def KE : List Nat := [1, 2, 3, 4, 5, 6, 8, 9]
def KF : List Nat := [4, 5, 6, 7, 8, 9, 10, 11, 12]
section XL
variable {F : Nat → Nat} {n : Nat} {e : E2}
theorem xLay_e1 (h : xHead F n 8 = .error e) : xLay F n = .error e := by unfold xLay; rw [h]
theorem xLay_0 (h : xHead F n 8 = .ok ()) : xLay F n = xLay1 F n (xPl F n) := by
  unfold xLay
  rw [h]
  show xLay0 F n = _
  unfold xLay0 xPl
  by_cases x : 10 ≤ n
  · rw [if_pos x, if_pos x]
    by_cases y : 1 ≤ U2 F 8 ∧ U2 F 8 ≤ 500
    · rw [if_pos y, if_pos y]
    · rw [if_neg y, if_neg y]; rfl
  · rw [if_neg x, if_neg x]; rfl
theorem xLay_e2 (h : xHead F n 8 = .ok ()) (h2 : xPl F n = .error e) : xLay F n = .error e := by rw [xLay_0 h, h2]; rfl
theorem xLay_e3 {q : Nat} {tb : Nat → Nat} (h : xHead F n 8 = .ok ()) (h2 : xPl F n = .ok (q, tb)) (h3 : ¬ q + 8 ≤ n) : xLay F n = .error (2, n) := by rw [xLay_0 h, h2]; simp only [xLay1, if_neg h3]
theorem xLay_e4 {q : Nat} {tb : Nat → Nat} (h : xHead F n 8 = .ok ()) (h2 : xPl F n = .ok (q, tb)) (h3 : q + 8 ≤ n) (h4 : xMems F n (q + 8) 0 (fun _ => 0) = .error e) : xLay F n = .error e := by rw [xLay_0 h, h2]; simp only [xLay1, if_pos h3, h4, xLay2]
theorem xLay_e5 {q q2 : Nat} {tb m2 : Nat → Nat} (h : xHead F n 8 = .ok ()) (h2 : xPl F n = .ok (q, tb)) (h3 : q + 8 ≤ n) (h4 : xMems F n (q + 8) 0 (fun _ => 0) = .ok (q2, m2)) (h5 : xMems F n q2 (U2 F (q + 8)) m2 = .error e) : xLay F n = .error e := by rw [xLay_0 h, h2]; simp only [xLay1, if_pos h3, h4, xLay2, h5, xLay3]
theorem xLay_e6 {q q2 q3 : Nat} {tb m2 m3 : Nat → Nat} (h : xHead F n 8 = .ok ()) (h2 : xPl F n = .ok (q, tb)) (h3 : q + 8 ≤ n) (h4 : xMems F n (q + 8) 0 (fun _ => 0) = .ok (q2, m2)) (h5 : xMems F n q2 (U2 F (q + 8)) m2 = .ok (q3, m3)) (h6 : xAtts F n q3 = .error e) : xLay F n = .error e := by rw [xLay_0 h, h2]; simp only [xLay1, if_pos h3, h4, xLay2, h5, xLay3, h6]
theorem xLay_k {q q2 q3 q4 : Nat} {tb m2 m3 : Nat → Nat} (h : xHead F n 8 = .ok ()) (h2 : xPl F n = .ok (q, tb)) (h3 : q + 8 ≤ n) (h4 : xMems F n (q + 8) 0 (fun _ => 0) = .ok (q2, m2)) (h5 : xMems F n q2 (U2 F (q + 8)) m2 = .ok (q3, m3)) (h6 : xAtts F n q3 = .ok q4) : xLay F n = .ok (tb, q, U2 F (q + 8), U2 F q2, m3, q3, q4) := by rw [xLay_0 h, h2]; simp only [xLay1, if_pos h3, h4, xLay2, h5, xLay3, h6]
end XL

set_option maxHeartbeats 4000000 in
set_option maxRecDepth 20000 in
theorem c_X4_keeps (l : Launch) (Z : zT) {H : Heap} {ad : Nat → Nat} {τ : mS} {X : List (Nat × va_E)} (hM : isC Z H ad τ X) {F : Nat → Nat} {n : Nat} (hB : cSrc τ F n) {h0 : Nat} (hh0 : h0 ≤ H.size) : zM l Z yX4_keeps cX4_keeps 4 (some .boolean) { rmk 6 with cells := 1, slots := 4 } [.ref (ad 0), .ref (ad 15)] H (kA ad h0) 1 4 (fun v H' => (∃ tb cl nf nm mt fa last, xLay F n = .ok (tb, cl, nf, nm, mt, fa, last) ∧ v = some (zV 1) ∧ ∃ τ' : mS, isC Z H' ad τ' X ∧ chg KX KF τ τ' ∧ cLay τ' F tb cl nf nm mt fa last) ∨ (∃ r w, xLay F n = .error (r, w) ∧ v = some (zV 0) ∧ gE Z H' ad X τ KE KF r w)) := by
  have hn := hB.2.2.2
  refine zM.introI (own := RX4) ⟨by decide, rfl⟩ (Nat.le_of_ble_eq_true rfl) ?_
  intro p e s m args below meth c Q ls hH C hl hret
  have hS : va_S (kA ad h0) s.heap H [] := by rw [hH]; exact va_S.rf
  have hl : lv_has ls 4 [(0, .ref (ad 0)), (1, .ref (ad 15))] := hl
  refine z_stretch C hM zw_8_1 (by omega) (Nat.le_of_ble_eq_true rfl) (Nat.le_of_ble_eq_true rfl) hS dX4_keeps_0 (fun t H0 H1 ht hM0 hq hz1 hht ho hS => ?_)
  have hM := hM0.keep (H1 := H1) (fun i hi => ho _ (hM0.lt hi)) (fun q hq => (hM0.ex hq).kept (ho _ (hM0.ex hq).lt))
  refine lv_dup C.1 C.2.1 dX4_keeps_3 rfl ?_
  refine lv_aload_n C.1 C.2.1 dX4_keeps_4 rfl (lv_at hl 0 rfl) ?_
  refine z_get C (v := .ref (ad 1)) hM.img rfl bi_wsX20 0 (by decide) zw_8_4 rfl rfl dX4_keeps_5 ?_
  refine lv_aload_n C.1 C.2.1 dX4_keeps_8 rfl (lv_at hl 1 rfl) ?_
  refine lv_aload_n C.1 C.2.1 dX4_keeps_9 rfl (lv_at hl 0 rfl) ?_
  refine z_get C (v := .ref (ad 1)) hM.img rfl bi_wsX20 0 (by decide) zw_8_4 rfl rfl dX4_keeps_10 ?_
  refine z_get C (v := .int (τ.1 0)) hM.byt rfl bi_wsX10 1 (by decide) zw_8_5 rfl rfl dX4_keeps_13 ?_
  refine z_re (y := zI ((n : Nat) : Int)) hB.2.2.1 ?_
  refine lv_iconst (v := zI 2) C.1 C.2.1 dX4_keeps_16 (by decide) ?_
  refine z_callI C (As := [.ref (ad 1), .ref (ad 15), zN n, zN 2]) (rest := [.ref t]) (c_X8_init l Z hq) ⟨⟨zw_8_16, zw_8_3, zw_8_14⟩, zd_X8_init⟩ zw_8_15 rfl ⟨Nat.le_of_ble_eq_true rfl, Nat.le_of_ble_eq_true rfl⟩ ⟨rfl, rfl⟩ rfl hl.1 rfl (Nat.le_of_ble_eq_true rfl) dX4_keeps_17 ⟨Nat.le_of_ble_eq_true rfl, Nat.le_of_ble_eq_true rfl⟩ hS (fun x hx => Or.inr (by rw [hx]; exact hht)) (fun v H locs hp hS hzz _ => ?_)
  obtain ⟨rfl, hu0, hq⟩ := hp
  have hM := hM0.addX ht ho hu0 hq
  have hX := List.mem_cons_self (a := (t, stE ad n 2)) (l := X)
  refine lv_astore_n (lv' := [(2, .ref t), (0, .ref (ad 0)), (1, .ref (ad 15))]) C.1 C.2.1 dX4_keeps_20 rfl hl (by decide) rfl (fun ls hl => ?_)
  refine lv_aload_n C.1 C.2.1 dX4_keeps_21 rfl (lv_at hl 0 rfl) ?_
  refine z_callS C (As := [.ref t]) (rest := []) (c_X4_behindHead l Z hM hB rfl hX) ⟨⟨zw_9_0, zw_7_23, zw_8_22⟩, zd_X4_behindHead⟩ zw_8_23 ⟨Nat.le_of_ble_eq_true rfl, Nat.le_of_ble_eq_true rfl⟩ ⟨rfl, rfl⟩ rfl hl.1 rfl (Nat.le_of_ble_eq_true rfl) dX4_keeps_22 ⟨Nat.le_of_ble_eq_true rfl, Nat.le_of_ble_eq_true rfl⟩ hS (fun _ h => Or.inl h) (fun v H locs hp hS _ _ => ?_)
  rcases hp with ⟨e22, rfl, hM⟩ | ⟨r22, w22, e22, rfl, hM⟩
  · skip
    refine lv_istore_n (lv' := [(3, zN 8), (2, .ref t), (0, .ref (ad 0)), (1, .ref (ad 15))]) C.1 C.2.1 dX4_keeps_25 rfl hl (by decide) rfl (fun ls hl => ?_)
    refine lv_iload_n C.1 C.2.1 dX4_keeps_26 rfl (lv_at hl 0 rfl) ?_
    refine lv_iconst (v := zI (-1)) C.1 C.2.1 dX4_keeps_27 (by decide) ?_
    refine y_icmp_eq (tgt := 41) C (a := 8) (b := -1) dX4_keeps_28 (by decide) (by omega) (fun h28 => ?_) (fun h28 => ?_)
    · exact False.elim (by first | omega | exact h28 rfl)
    · refine lv_aload_n C.1 C.2.1 dX4_keeps_31 rfl (lv_at hl 1 rfl) ?_
      refine lv_aload_n C.1 C.2.1 dX4_keeps_32 rfl (lv_at hl 2 rfl) ?_
      refine z_get C (v := .ref (ad 3)) hM.img rfl bi_wsX20 1 (by decide) zw_8_6 rfl rfl dX4_keeps_33 ?_
      refine lv_iload_n C.1 C.2.1 dX4_keeps_36 rfl (lv_at hl 0 rfl) ?_
      refine z_callS C (As := [.ref t, .ref (ad 3), zN 8]) (rest := []) (c_X4_behindPool l Z hM hB rfl rfl hX) ⟨⟨zw_9_15, zw_7_23, zw_9_13⟩, zd_X4_behindPool⟩ zw_9_14 ⟨Nat.le_of_ble_eq_true rfl, Nat.le_of_ble_eq_true rfl⟩ ⟨rfl, rfl⟩ rfl hl.1 rfl (Nat.le_of_ble_eq_true rfl) dX4_keeps_37 ⟨Nat.le_of_ble_eq_true rfl, Nat.le_of_ble_eq_true rfl⟩ hS (fun _ h => Or.inl h) (fun v H locs hp hS _ _ => ?_)
      rcases hp with ⟨cl, tb, e37, rfl, hcn, τ1, hM, hc1, hP, h89⟩ | ⟨r37, w37, e37, rfl, τ1, hM, hc1, h8, h9⟩
      · have hB := hB.chg hc1 (by decide) (by decide)
        have hpp := xPl_p e37
        refine lv_istore_n (lv' := [(3, zN cl), (2, .ref t), (0, .ref (ad 0)), (1, .ref (ad 15))]) C.1 C.2.1 dX4_keeps_40 rfl hl (by decide) rfl (fun ls hl => ?_)
        refine lv_iload_n C.1 C.2.1 dX4_keeps_41 rfl (lv_at hl 0 rfl) ?_
        refine lv_iconst (v := zI (-1)) C.1 C.2.1 dX4_keeps_42 (by decide) ?_
        refine y_icmp_eq (tgt := 66) C (a := ((cl : Nat) : Int)) (b := -1) dX4_keeps_43 (by decide) (by omega) (fun h43 => ?_) (fun h43 => ?_)
        · exact False.elim (by first | omega | exact h43 rfl)
        · refine lv_aload_n C.1 C.2.1 dX4_keeps_46 rfl (lv_at hl 2 rfl) ?_
          refine z_get C (v := .ref (ad 3)) hM.img rfl bi_wsX20 1 (by decide) zw_8_6 rfl rfl dX4_keeps_47 ?_
          refine z_callS C (As := [.ref (ad 3)]) (rest := []) (c_X9_learn l Z hM hB hP (by omega) (fun k _ hk => (hpp.2.2.2.1.nm hk).1) (fun _ z => by have := (hpp.2.2.2.1.nm z).2.2.1; omega) h89) ⟨⟨zw_11_17, zw_11_16, zw_11_14⟩, zd_X9_learn⟩ zw_11_15 ⟨Nat.le_of_ble_eq_true rfl, Nat.le_of_ble_eq_true rfl⟩ ⟨rfl, rfl⟩ rfl hl.1 rfl (Nat.le_of_ble_eq_true rfl) dX4_keeps_50 ⟨Nat.le_of_ble_eq_true rfl, Nat.le_of_ble_eq_true rfl⟩ hS (fun _ h => Or.inl h) (fun v H locs hp hS _ _ => ?_)
          obtain ⟨rfl, τ2, hM, hc2, hln⟩ := hp
          have hB := hB.chg hc2 (by decide) (by decide)
          have hP := hP.chg hc2 (by decide) (by decide)
          have hln : lnQ F tb τ2 := hln
          refine lv_aload_n C.1 C.2.1 dX4_keeps_53 rfl (lv_at hl 2 rfl) ?_
          refine lv_iload_n C.1 C.2.1 dX4_keeps_54 rfl (lv_at hl 0 rfl) ?_
          refine z_put C (v := zN cl) tyX2 hM.img rfl bi_wsX20 tyX2_ok nmX2 8 (by decide) zw_8_7 rfl rfl rfl rfl (Nat.le_of_ble_eq_true rfl) hS (Or.inl (cA.k 0 (by decide))) dX4_keeps_55 (fun H locs hu hn hS => ?_)
          have hM := hM.sx4 hu hn
          have hB : cSrc (sx τ2 4 (zI ((cl : Nat) : Int))) F n := hB.sx (by decide)
          have hP : cPl (sx τ2 4 (zI ((cl : Nat) : Int))) F tb (U2 F 8) := hP.sx (by decide)
          have hln : lnQ F tb (sx τ2 4 (zI ((cl : Nat) : Int))) := hln
          refine lv_aload_n C.1 C.2.1 dX4_keeps_58 rfl (lv_at hl 1 rfl) ?_
          refine lv_iload_n C.1 C.2.1 dX4_keeps_59 rfl (lv_at hl 0 rfl) ?_
          refine lv_bipush (v := zI 8) C.1 C.2.1 dX4_keeps_60 (by decide) ?_
          refine z_callV C (As := [zN cl, zN 8]) (rest := []) (c_X8_behind l Z hM hX cl (by omega) 8 (by omega) (by omega)) (hM.ex' hX) rfl ⟨⟨zw_10_0, zw_8_3, zw_10_22⟩, zd_X8_behind⟩ zw_9_22 zw_9_23 ⟨Nat.le_of_ble_eq_true rfl, Nat.le_of_ble_eq_true rfl⟩ ⟨rfl, rfl⟩ rfl hl.1 rfl (Nat.le_of_ble_eq_true rfl) dX4_keeps_62 ⟨Nat.le_of_ble_eq_true rfl, Nat.le_of_ble_eq_true rfl⟩ hS (fun _ h => Or.inl h) (fun v H locs hp hS _ _ => ?_)
          obtain ⟨hp1, hp2⟩ := hp
          rcases Classical.em (0 ≤ (8 : Int) ∧ ((cl : Nat) : Int) + 8 ≤ (n : Int)) with hc62 | hc62
          · obtain ⟨rfl, hM⟩ := hp1 hc62
            refine lv_istore_n (lv' := [(3, zN (cl + 8)), (2, .ref t), (0, .ref (ad 0)), (1, .ref (ad 15))]) C.1 C.2.1 dX4_keeps_65 rfl hl (by decide) rfl (fun ls hl => ?_)
            refine lv_iload_n C.1 C.2.1 dX4_keeps_66 rfl (lv_at hl 0 rfl) ?_
            refine lv_iconst (v := zI (-1)) C.1 C.2.1 dX4_keeps_67 (by decide) ?_
            refine y_icmp_eq (tgt := 93) C (a := ((cl + 8 : Nat) : Int)) (b := -1) dX4_keeps_68 (by decide) (by omega) (fun h68 => ?_) (fun h68 => ?_)
            · exact False.elim (by first | omega | exact h68 rfl)
            · refine lv_aload_n C.1 C.2.1 dX4_keeps_71 rfl (lv_at hl 2 rfl) ?_
              refine lv_aload_n C.1 C.2.1 dX4_keeps_72 rfl (lv_at hl 2 rfl) ?_
              refine z_get C (v := .ref (ad 1)) hM.img rfl bi_wsX20 0 (by decide) zw_8_4 rfl rfl dX4_keeps_73 ?_
              refine lv_iload_n C.1 C.2.1 dX4_keeps_76 rfl (lv_at hl 0 rfl) ?_
              refine z_readV C (As := [zN (cl + 8)]) (rest := [.ref (ad 0)]) (c_X1_u2 l Z hM hB ((cl + 8 : Nat) : Int) (by omega)) hM.byt rfl ⟨⟨zw_10_5, zw_2_15, zw_10_6⟩, zd_X1_u2⟩ zw_10_3 zw_10_4 ⟨Nat.le_of_ble_eq_true rfl, Nat.le_of_ble_eq_true rfl⟩ ⟨rfl, rfl⟩ rfl hl.1 rfl (Nat.le_of_ble_eq_true rfl) dX4_keeps_77 ⟨Nat.le_of_ble_eq_true rfl, Nat.le_of_ble_eq_true rfl⟩ hS (fun locs hS => ?_)
              refine z_put C (v := zN (B2 F n ((cl + 8 : Nat) : Int))) tyX2 hM.img rfl bi_wsX20 tyX2_ok nmX2 6 (by decide) zw_8_8 rfl rfl rfl rfl (Nat.le_of_ble_eq_true rfl) hS (Or.inl (cA.k 0 (by decide))) dX4_keeps_80 (fun H locs hu hn hS => ?_)
              have hM := hM.sx2 hu hn
              have hB : cSrc (sx (sx τ2 4 (zI ((cl : Nat) : Int))) 2 (zI ((B2 F n ((cl + 8 : Nat) : Int) : Nat) : Int))) F n := hB.sx (by decide)
              have hP : cPl (sx (sx τ2 4 (zI ((cl : Nat) : Int))) 2 (zI ((B2 F n ((cl + 8 : Nat) : Int) : Nat) : Int))) F tb (U2 F 8) := hP.sx (by decide)
              have hln : lnQ F tb (sx (sx τ2 4 (zI ((cl : Nat) : Int))) 2 (zI ((B2 F n ((cl + 8 : Nat) : Int) : Nat) : Int))) := hln
              refine lv_aload_n C.1 C.2.1 dX4_keeps_83 rfl (lv_at hl 1 rfl) ?_
              refine lv_aload_n C.1 C.2.1 dX4_keeps_84 rfl (lv_at hl 2 rfl) ?_
              refine z_get C (v := .ref (ad 11)) hM.img rfl bi_wsX20 2 (by decide) zw_8_9 rfl rfl dX4_keeps_85 ?_
              refine lv_iload_n C.1 C.2.1 dX4_keeps_88 rfl (lv_at hl 0 rfl) ?_
              refine z_callS C (As := [.ref t, .ref (ad 11), zN (cl + 8)]) (rest := []) (c_behindMembers11 l Z hM hB rfl rfl hX (k := cl + 8) (by omega) 0 (fun _ => 0)) ⟨⟨zw_12_17, zw_7_23, zw_12_15⟩, zd_X4_behindMembers⟩ zw_12_16 ⟨Nat.le_of_ble_eq_true rfl, Nat.le_of_ble_eq_true rfl⟩ ⟨rfl, rfl⟩ rfl hl.1 rfl (Nat.le_of_ble_eq_true rfl) dX4_keeps_89 ⟨Nat.le_of_ble_eq_true rfl, Nat.le_of_ble_eq_true rfl⟩ hS (fun _ h => Or.inl h) (fun v H locs hp hS _ _ => ?_)
              rcases hp with ⟨q2, m2, e11, rfl, hb11, τ3, hM, hc11, hr11⟩ | ⟨r9, w9, e11, rfl, τ3, hM, hc11, h8, h9⟩
              · have hB := hB.chg hc11 (by decide) (by decide)
                have hP := hP.chg (hc11) (by decide) (by decide)
                have hln := hln.chg hc11 (by decide)
                have hmp11 := xMems_p e11
                have hbb11 := B2_in (F := F) hmp11.1
                refine lv_istore_n (lv' := [(3, zN q2), (2, .ref t), (0, .ref (ad 0)), (1, .ref (ad 15))]) C.1 C.2.1 dX4_keeps_92 rfl hl (by decide) rfl (fun ls hl => ?_)
                refine lv_iload_n C.1 C.2.1 dX4_keeps_93 rfl (lv_at hl 0 rfl) ?_
                refine lv_iconst (v := zI (-1)) C.1 C.2.1 dX4_keeps_94 (by decide) ?_
                refine y_icmp_eq (tgt := 120) C (a := ((q2 : Nat) : Int)) (b := -1) dX4_keeps_95 (by decide) (by omega) (fun h95 => ?_) (fun h95 => ?_)
                · exact False.elim (by first | omega | exact h95 rfl)
                · refine lv_aload_n C.1 C.2.1 dX4_keeps_98 rfl (lv_at hl 2 rfl) ?_
                  refine lv_aload_n C.1 C.2.1 dX4_keeps_99 rfl (lv_at hl 2 rfl) ?_
                  refine z_get C (v := .ref (ad 1)) hM.img rfl bi_wsX20 0 (by decide) zw_8_4 rfl rfl dX4_keeps_100 ?_
                  refine lv_iload_n C.1 C.2.1 dX4_keeps_103 rfl (lv_at hl 0 rfl) ?_
                  refine z_readV C (As := [zN q2]) (rest := [.ref (ad 0)]) (c_X1_u2 l Z hM hB ((q2 : Nat) : Int) (by omega)) hM.byt rfl ⟨⟨zw_10_5, zw_2_15, zw_10_6⟩, zd_X1_u2⟩ zw_10_3 zw_10_4 ⟨Nat.le_of_ble_eq_true rfl, Nat.le_of_ble_eq_true rfl⟩ ⟨rfl, rfl⟩ rfl hl.1 rfl (Nat.le_of_ble_eq_true rfl) dX4_keeps_104 ⟨Nat.le_of_ble_eq_true rfl, Nat.le_of_ble_eq_true rfl⟩ hS (fun locs hS => ?_)
                  refine z_put C (v := zN (B2 F n ((q2 : Nat) : Int))) tyX2 hM.img rfl bi_wsX20 tyX2_ok nmX2 7 (by decide) zw_8_10 rfl rfl rfl rfl (Nat.le_of_ble_eq_true rfl) hS (Or.inl (cA.k 0 (by decide))) dX4_keeps_107 (fun H locs hu hn hS => ?_)
                  have hM := hM.sx3 hu hn
                  have hB : cSrc (sx τ3 3 (zI ((B2 F n ((q2 : Nat) : Int) : Nat) : Int))) F n := hB.sx (by decide)
                  have hP : cPl (sx τ3 3 (zI ((B2 F n ((q2 : Nat) : Int) : Nat) : Int))) F tb (U2 F 8) := hP.sx (by decide)
                  have hln : lnQ F tb (sx τ3 3 (zI ((B2 F n ((q2 : Nat) : Int) : Nat) : Int))) := hln
                  refine lv_aload_n C.1 C.2.1 dX4_keeps_110 rfl (lv_at hl 1 rfl) ?_
                  refine lv_aload_n C.1 C.2.1 dX4_keeps_111 rfl (lv_at hl 2 rfl) ?_
                  refine z_get C (v := .ref (ad 12)) hM.img rfl bi_wsX20 3 (by decide) zw_8_11 rfl rfl dX4_keeps_112 ?_
                  refine lv_iload_n C.1 C.2.1 dX4_keeps_115 rfl (lv_at hl 0 rfl) ?_
                  refine z_callS C (As := [.ref t, .ref (ad 12), zN q2]) (rest := []) (c_behindMembers12 l Z hM hB rfl rfl hX (k := q2) (by omega) (U2 F (cl + 8)) m2) ⟨⟨zw_12_17, zw_7_23, zw_12_15⟩, zd_X4_behindMembers⟩ zw_12_16 ⟨Nat.le_of_ble_eq_true rfl, Nat.le_of_ble_eq_true rfl⟩ ⟨rfl, rfl⟩ rfl hl.1 rfl (Nat.le_of_ble_eq_true rfl) dX4_keeps_116 ⟨Nat.le_of_ble_eq_true rfl, Nat.le_of_ble_eq_true rfl⟩ hS (fun _ h => Or.inl h) (fun v H locs hp hS _ _ => ?_)
                  rcases hp with ⟨q3, m3, e12, rfl, hb12, τ4, hM, hc12, hr12⟩ | ⟨r9, w9, e12, rfl, τ4, hM, hc12, h8, h9⟩
                  · have hB := hB.chg hc12 (by decide) (by decide)
                    have hP := hP.chg (hc12) (by decide) (by decide)
                    have hln := hln.chg hc12 (by decide)
                    have hmp12 := xMems_p e12
                    have hbb12 := B2_in (F := F) hmp12.1
                    refine lv_istore_n (lv' := [(3, zN q3), (2, .ref t), (0, .ref (ad 0)), (1, .ref (ad 15))]) C.1 C.2.1 dX4_keeps_119 rfl hl (by decide) rfl (fun ls hl => ?_)
                    refine lv_iload_n C.1 C.2.1 dX4_keeps_120 rfl (lv_at hl 0 rfl) ?_
                    refine lv_iconst (v := zI (-1)) C.1 C.2.1 dX4_keeps_121 (by decide) ?_
                    refine y_icmp_eq (tgt := 136) C (a := ((q3 : Nat) : Int)) (b := -1) dX4_keeps_122 (by decide) (by omega) (fun h122 => ?_) (fun h122 => ?_)
                    · exact False.elim (by first | omega | exact h122 rfl)
                    · refine lv_aload_n C.1 C.2.1 dX4_keeps_125 rfl (lv_at hl 2 rfl) ?_
                      refine lv_iload_n C.1 C.2.1 dX4_keeps_126 rfl (lv_at hl 0 rfl) ?_
                      refine z_put C (v := zN q3) tyX2 hM.img rfl bi_wsX20 tyX2_ok nmX2 9 (by decide) zw_8_12 rfl rfl rfl rfl (Nat.le_of_ble_eq_true rfl) hS (Or.inl (cA.k 0 (by decide))) dX4_keeps_127 (fun H locs hu hn hS => ?_)
                      have hM := hM.sx5 hu hn
                      have hB : cSrc (sx τ4 5 (zI ((q3 : Nat) : Int))) F n := hB.sx (by decide)
                      have hP : cPl (sx τ4 5 (zI ((q3 : Nat) : Int))) F tb (U2 F 8) := hP.sx (by decide)
                      have hln : lnQ F tb (sx τ4 5 (zI ((q3 : Nat) : Int))) := hln
                      refine lv_aload_n C.1 C.2.1 dX4_keeps_130 rfl (lv_at hl 1 rfl) ?_
                      refine lv_iload_n C.1 C.2.1 dX4_keeps_131 rfl (lv_at hl 0 rfl) ?_
                      refine z_callV C (As := [zN q3]) (rest := []) (c_X8_behindAttributes l Z hM hB hX (by omega) (k := q3) (by omega)) (hM.ex' hX) rfl ⟨⟨zw_12_21, zw_8_3, zw_12_18⟩, zd_X8_behindAttributes⟩ zw_12_19 zw_12_20 ⟨Nat.le_of_ble_eq_true rfl, Nat.le_of_ble_eq_true rfl⟩ ⟨rfl, rfl⟩ rfl hl.1 rfl (Nat.le_of_ble_eq_true rfl) dX4_keeps_132 ⟨Nat.le_of_ble_eq_true rfl, Nat.le_of_ble_eq_true rfl⟩ hS (fun _ h => Or.inl h) (fun v H locs hp hS _ _ => ?_)
                      rcases hp with ⟨q4, e13, rfl, hM, hb13⟩ | ⟨r13, w13, e13, rfl, hM⟩
                      · skip
                        refine lv_istore_n (lv' := [(3, zN q4), (2, .ref t), (0, .ref (ad 0)), (1, .ref (ad 15))]) C.1 C.2.1 dX4_keeps_135 rfl hl (by decide) rfl (fun ls hl => ?_)
                        refine lv_aload_n C.1 C.2.1 dX4_keeps_136 rfl (lv_at hl 2 rfl) ?_
                        refine lv_iload_n C.1 C.2.1 dX4_keeps_137 rfl (lv_at hl 0 rfl) ?_
                        refine z_put C (v := zN q4) tyX2 hM.img rfl bi_wsX20 tyX2_ok nmX2 10 (by decide) zw_8_13 rfl rfl rfl rfl (Nat.le_of_ble_eq_true rfl) hS (Or.inl (cA.k 0 (by decide))) dX4_keeps_138 (fun H locs hu hn hS => ?_)
                        have hM := hM.sx6 hu hn
                        have hB : cSrc (sx (sx τ4 5 (zI ((q3 : Nat) : Int))) 6 (zI ((q4 : Nat) : Int))) F n := hB.sx (by decide)
                        have hP : cPl (sx (sx τ4 5 (zI ((q3 : Nat) : Int))) 6 (zI ((q4 : Nat) : Int))) F tb (U2 F 8) := hP.sx (by decide)
                        have hln : lnQ F tb (sx (sx τ4 5 (zI ((q3 : Nat) : Int))) 6 (zI ((q4 : Nat) : Int))) := hln
                        refine lv_iload_n C.1 C.2.1 dX4_keeps_141 rfl (lv_at hl 0 rfl) ?_
                        refine lv_iconst (v := zI (-1)) C.1 C.2.1 dX4_keeps_142 (by decide) ?_
                        refine y_icmp_eq (tgt := 150) C (a := ((q4 : Nat) : Int)) (b := -1) dX4_keeps_143 (by decide) (by omega) (fun h143 => ?_) (fun h143 => ?_)
                        · exact False.elim (by first | omega | exact h143 rfl)
                        · refine lv_iconst (v := zI 1) C.1 C.2.1 dX4_keeps_146 (by decide) ?_
                          refine lv_goto (tgt := 151) C.1 C.2.1 dX4_keeps_147 (by decide) ?_
                          exact hret _ _ _ _ (zI 1) hS (Or.inl ⟨tb, cl, _, _, m3, q3, q4, xLay_k e22 e37 (by omega) e11 e12 (by rw [← aAs_x]; exact e13), rfl, _, hM.drop, (chg_sx (by decide) (chg_sx (by decide) ((chg_sx (by decide) ((chg_sx (by decide) (chg_sx (by decide) ((hc1.mono (by decide) (by decide)).tr (hc2.mono (by decide) (by decide))))).tr (hc11.mono (by decide) (by decide)))).tr (hc12.mono (by decide) (by decide))))), hP, hln, ((hc12.1 2 (by decide)).trans (hc11.1 2 (by decide))).trans (zI_c (congrArg Nat.cast hbb11)), (hc12.1 3 (by decide)).trans (zI_c (congrArg Nat.cast hbb12)), (hc12.1 4 (by decide)).trans (hc11.1 4 (by decide)), rfl, rfl, (fun j hj => by have e1 := (congrFun (hc12.2.1 11 (by decide)) j).trans (hr11 j hj); rw [hmp12.2.2.1 j hj]; rw [Nat.zero_add] at e1; exact e1), hr12⟩) rfl dX4_keeps_151
                      · skip
                        refine lv_istore_n (lv' := [(3, zV (-1)), (2, .ref t), (0, .ref (ad 0)), (1, .ref (ad 15))]) C.1 C.2.1 dX4_keeps_135 rfl hl (by decide) rfl (fun ls hl => ?_)
                        refine lv_aload_n C.1 C.2.1 dX4_keeps_136 rfl (lv_at hl 2 rfl) ?_
                        refine lv_iload_n C.1 C.2.1 dX4_keeps_137 rfl (lv_at hl 0 rfl) ?_
                        refine z_put C (v := zV (-1)) tyX2 hM.img rfl bi_wsX20 tyX2_ok nmX2 10 (by decide) zw_8_13 rfl rfl rfl rfl (Nat.le_of_ble_eq_true rfl) hS (Or.inl (cA.k 0 (by decide))) dX4_keeps_138 (fun H locs hu hn hS => ?_)
                        have hM := hM.sx6 hu hn
                        have hB : cSrc (sx (sx (sx (sx τ4 5 (zI ((q3 : Nat) : Int))) 8 (zI (r13 : Int))) 9 (zI (w13 : Int))) 6 (zI (-1))) F n := hB.sx (by decide)
                        refine lv_iload_n C.1 C.2.1 dX4_keeps_141 rfl (lv_at hl 0 rfl) ?_
                        refine lv_iconst (v := zI (-1)) C.1 C.2.1 dX4_keeps_142 (by decide) ?_
                        refine y_icmp_eq (tgt := 150) C (a := -1) (b := -1) dX4_keeps_143 (by decide) (by omega) (fun h143 => ?_) (fun h143 => ?_)
                        · refine lv_iconst (v := zI 0) C.1 C.2.1 dX4_keeps_150 (by decide) ?_
                          exact hret _ _ _ _ (zI 0) hS (Or.inr ⟨_, _, xLay_e6 e22 e37 (by omega) e11 e12 (by rw [← aAs_x]; exact e13), rfl, _, hM.drop, (chg_sx (by decide) (chg_sx (by decide) (chg_sx (by decide) (chg_sx (by decide) ((chg_sx (by decide) ((chg_sx (by decide) (chg_sx (by decide) ((hc1.mono (by decide) (by decide)).tr (hc2.mono (by decide) (by decide))))).tr (hc11.mono (by decide) (by decide)))).tr (hc12.mono (by decide) (by decide))))))), rfl, rfl⟩) rfl dX4_keeps_151
                        · exact False.elim (by first | omega | exact h143 rfl)
                  · have hB := hB.chg hc12 (by decide) (by decide)
                    refine lv_istore_n (lv' := [(3, zV (-1)), (2, .ref t), (0, .ref (ad 0)), (1, .ref (ad 15))]) C.1 C.2.1 dX4_keeps_119 rfl hl (by decide) rfl (fun ls hl => ?_)
                    refine lv_iload_n C.1 C.2.1 dX4_keeps_120 rfl (lv_at hl 0 rfl) ?_
                    refine lv_iconst (v := zI (-1)) C.1 C.2.1 dX4_keeps_121 (by decide) ?_
                    refine y_icmp_eq (tgt := 136) C (a := -1) (b := -1) dX4_keeps_122 (by decide) (by omega) (fun h122 => ?_) (fun h122 => ?_)
                    · refine lv_aload_n C.1 C.2.1 dX4_keeps_136 rfl (lv_at hl 2 rfl) ?_
                      refine lv_iload_n C.1 C.2.1 dX4_keeps_137 rfl (lv_at hl 0 rfl) ?_
                      refine z_put C (v := zV (-1)) tyX2 hM.img rfl bi_wsX20 tyX2_ok nmX2 10 (by decide) zw_8_13 rfl rfl rfl rfl (Nat.le_of_ble_eq_true rfl) hS (Or.inl (cA.k 0 (by decide))) dX4_keeps_138 (fun H locs hu hn hS => ?_)
                      have hM := hM.sx6 hu hn
                      have hB : cSrc (sx τ4 6 (zI (-1))) F n := hB.sx (by decide)
                      refine lv_iload_n C.1 C.2.1 dX4_keeps_141 rfl (lv_at hl 0 rfl) ?_
                      refine lv_iconst (v := zI (-1)) C.1 C.2.1 dX4_keeps_142 (by decide) ?_
                      refine y_icmp_eq (tgt := 150) C (a := -1) (b := -1) dX4_keeps_143 (by decide) (by omega) (fun h143 => ?_) (fun h143 => ?_)
                      · refine lv_iconst (v := zI 0) C.1 C.2.1 dX4_keeps_150 (by decide) ?_
                        exact hret _ _ _ _ (zI 0) hS (Or.inr ⟨_, _, xLay_e5 e22 e37 (by omega) e11 e12, rfl, _, hM.drop, (chg_sx (by decide) ((chg_sx (by decide) ((chg_sx (by decide) (chg_sx (by decide) ((hc1.mono (by decide) (by decide)).tr (hc2.mono (by decide) (by decide))))).tr (hc11.mono (by decide) (by decide)))).tr (hc12.mono (by decide) (by decide)))), h8, h9⟩) rfl dX4_keeps_151
                      · exact False.elim (by first | omega | exact h143 rfl)
                    · exact False.elim (by first | omega | exact h122 rfl)
              · have hB := hB.chg hc11 (by decide) (by decide)
                refine lv_istore_n (lv' := [(3, zV (-1)), (2, .ref t), (0, .ref (ad 0)), (1, .ref (ad 15))]) C.1 C.2.1 dX4_keeps_92 rfl hl (by decide) rfl (fun ls hl => ?_)
                refine lv_iload_n C.1 C.2.1 dX4_keeps_93 rfl (lv_at hl 0 rfl) ?_
                refine lv_iconst (v := zI (-1)) C.1 C.2.1 dX4_keeps_94 (by decide) ?_
                refine y_icmp_eq (tgt := 120) C (a := -1) (b := -1) dX4_keeps_95 (by decide) (by omega) (fun h95 => ?_) (fun h95 => ?_)
                · refine lv_iload_n C.1 C.2.1 dX4_keeps_120 rfl (lv_at hl 0 rfl) ?_
                  refine lv_iconst (v := zI (-1)) C.1 C.2.1 dX4_keeps_121 (by decide) ?_
                  refine y_icmp_eq (tgt := 136) C (a := -1) (b := -1) dX4_keeps_122 (by decide) (by omega) (fun h122 => ?_) (fun h122 => ?_)
                  · refine lv_aload_n C.1 C.2.1 dX4_keeps_136 rfl (lv_at hl 2 rfl) ?_
                    refine lv_iload_n C.1 C.2.1 dX4_keeps_137 rfl (lv_at hl 0 rfl) ?_
                    refine z_put C (v := zV (-1)) tyX2 hM.img rfl bi_wsX20 tyX2_ok nmX2 10 (by decide) zw_8_13 rfl rfl rfl rfl (Nat.le_of_ble_eq_true rfl) hS (Or.inl (cA.k 0 (by decide))) dX4_keeps_138 (fun H locs hu hn hS => ?_)
                    have hM := hM.sx6 hu hn
                    have hB : cSrc (sx τ3 6 (zI (-1))) F n := hB.sx (by decide)
                    refine lv_iload_n C.1 C.2.1 dX4_keeps_141 rfl (lv_at hl 0 rfl) ?_
                    refine lv_iconst (v := zI (-1)) C.1 C.2.1 dX4_keeps_142 (by decide) ?_
                    refine y_icmp_eq (tgt := 150) C (a := -1) (b := -1) dX4_keeps_143 (by decide) (by omega) (fun h143 => ?_) (fun h143 => ?_)
                    · refine lv_iconst (v := zI 0) C.1 C.2.1 dX4_keeps_150 (by decide) ?_
                      exact hret _ _ _ _ (zI 0) hS (Or.inr ⟨_, _, xLay_e4 e22 e37 (by omega) e11, rfl, _, hM.drop, (chg_sx (by decide) ((chg_sx (by decide) (chg_sx (by decide) ((hc1.mono (by decide) (by decide)).tr (hc2.mono (by decide) (by decide))))).tr (hc11.mono (by decide) (by decide)))), h8, h9⟩) rfl dX4_keeps_151
                    · exact False.elim (by first | omega | exact h143 rfl)
                  · exact False.elim (by first | omega | exact h122 rfl)
                · exact False.elim (by first | omega | exact h95 rfl)
          · obtain ⟨rfl, hM⟩ := hp2 hc62
            refine lv_istore_n (lv' := [(3, zV (-1)), (2, .ref t), (0, .ref (ad 0)), (1, .ref (ad 15))]) C.1 C.2.1 dX4_keeps_65 rfl hl (by decide) rfl (fun ls hl => ?_)
            refine lv_iload_n C.1 C.2.1 dX4_keeps_66 rfl (lv_at hl 0 rfl) ?_
            refine lv_iconst (v := zI (-1)) C.1 C.2.1 dX4_keeps_67 (by decide) ?_
            refine y_icmp_eq (tgt := 93) C (a := -1) (b := -1) dX4_keeps_68 (by decide) (by omega) (fun h68 => ?_) (fun h68 => ?_)
            · refine lv_iload_n C.1 C.2.1 dX4_keeps_93 rfl (lv_at hl 0 rfl) ?_
              refine lv_iconst (v := zI (-1)) C.1 C.2.1 dX4_keeps_94 (by decide) ?_
              refine y_icmp_eq (tgt := 120) C (a := -1) (b := -1) dX4_keeps_95 (by decide) (by omega) (fun h95 => ?_) (fun h95 => ?_)
              · refine lv_iload_n C.1 C.2.1 dX4_keeps_120 rfl (lv_at hl 0 rfl) ?_
                refine lv_iconst (v := zI (-1)) C.1 C.2.1 dX4_keeps_121 (by decide) ?_
                refine y_icmp_eq (tgt := 136) C (a := -1) (b := -1) dX4_keeps_122 (by decide) (by omega) (fun h122 => ?_) (fun h122 => ?_)
                · refine lv_aload_n C.1 C.2.1 dX4_keeps_136 rfl (lv_at hl 2 rfl) ?_
                  refine lv_iload_n C.1 C.2.1 dX4_keeps_137 rfl (lv_at hl 0 rfl) ?_
                  refine z_put C (v := zV (-1)) tyX2 hM.img rfl bi_wsX20 tyX2_ok nmX2 10 (by decide) zw_8_13 rfl rfl rfl rfl (Nat.le_of_ble_eq_true rfl) hS (Or.inl (cA.k 0 (by decide))) dX4_keeps_138 (fun H locs hu hn hS => ?_)
                  have hM := hM.sx6 hu hn
                  have hB : cSrc (sx (sx (sx (sx τ2 4 (zI ((cl : Nat) : Int))) 8 (zI ((2 : Nat) : Int))) 9 (zI ((n : Nat) : Int))) 6 (zI (-1))) F n := hB.sx (by decide)
                  refine lv_iload_n C.1 C.2.1 dX4_keeps_141 rfl (lv_at hl 0 rfl) ?_
                  refine lv_iconst (v := zI (-1)) C.1 C.2.1 dX4_keeps_142 (by decide) ?_
                  refine y_icmp_eq (tgt := 150) C (a := -1) (b := -1) dX4_keeps_143 (by decide) (by omega) (fun h143 => ?_) (fun h143 => ?_)
                  · refine lv_iconst (v := zI 0) C.1 C.2.1 dX4_keeps_150 (by decide) ?_
                    exact hret _ _ _ _ (zI 0) hS (Or.inr ⟨_, _, xLay_e3 e22 e37 (by omega), rfl, _, hM.drop, (chg_sx (by decide) (chg_sx (by decide) (chg_sx (by decide) (chg_sx (by decide) ((hc1.mono (by decide) (by decide)).tr (hc2.mono (by decide) (by decide))))))), rfl, rfl⟩) rfl dX4_keeps_151
                  · exact False.elim (by first | omega | exact h143 rfl)
                · exact False.elim (by first | omega | exact h122 rfl)
              · exact False.elim (by first | omega | exact h95 rfl)
            · exact False.elim (by first | omega | exact h68 rfl)
      · have hB := hB.chg hc1 (by decide) (by decide)
        refine lv_istore_n (lv' := [(3, zV (-1)), (2, .ref t), (0, .ref (ad 0)), (1, .ref (ad 15))]) C.1 C.2.1 dX4_keeps_40 rfl hl (by decide) rfl (fun ls hl => ?_)
        refine lv_iload_n C.1 C.2.1 dX4_keeps_41 rfl (lv_at hl 0 rfl) ?_
        refine lv_iconst (v := zI (-1)) C.1 C.2.1 dX4_keeps_42 (by decide) ?_
        refine y_icmp_eq (tgt := 66) C (a := -1) (b := -1) dX4_keeps_43 (by decide) (by omega) (fun h43 => ?_) (fun h43 => ?_)
        · refine lv_iload_n C.1 C.2.1 dX4_keeps_66 rfl (lv_at hl 0 rfl) ?_
          refine lv_iconst (v := zI (-1)) C.1 C.2.1 dX4_keeps_67 (by decide) ?_
          refine y_icmp_eq (tgt := 93) C (a := -1) (b := -1) dX4_keeps_68 (by decide) (by omega) (fun h68 => ?_) (fun h68 => ?_)
          · refine lv_iload_n C.1 C.2.1 dX4_keeps_93 rfl (lv_at hl 0 rfl) ?_
            refine lv_iconst (v := zI (-1)) C.1 C.2.1 dX4_keeps_94 (by decide) ?_
            refine y_icmp_eq (tgt := 120) C (a := -1) (b := -1) dX4_keeps_95 (by decide) (by omega) (fun h95 => ?_) (fun h95 => ?_)
            · refine lv_iload_n C.1 C.2.1 dX4_keeps_120 rfl (lv_at hl 0 rfl) ?_
              refine lv_iconst (v := zI (-1)) C.1 C.2.1 dX4_keeps_121 (by decide) ?_
              refine y_icmp_eq (tgt := 136) C (a := -1) (b := -1) dX4_keeps_122 (by decide) (by omega) (fun h122 => ?_) (fun h122 => ?_)
              · refine lv_aload_n C.1 C.2.1 dX4_keeps_136 rfl (lv_at hl 2 rfl) ?_
                refine lv_iload_n C.1 C.2.1 dX4_keeps_137 rfl (lv_at hl 0 rfl) ?_
                refine z_put C (v := zV (-1)) tyX2 hM.img rfl bi_wsX20 tyX2_ok nmX2 10 (by decide) zw_8_13 rfl rfl rfl rfl (Nat.le_of_ble_eq_true rfl) hS (Or.inl (cA.k 0 (by decide))) dX4_keeps_138 (fun H locs hu hn hS => ?_)
                have hM := hM.sx6 hu hn
                have hB : cSrc (sx τ1 6 (zI (-1))) F n := hB.sx (by decide)
                refine lv_iload_n C.1 C.2.1 dX4_keeps_141 rfl (lv_at hl 0 rfl) ?_
                refine lv_iconst (v := zI (-1)) C.1 C.2.1 dX4_keeps_142 (by decide) ?_
                refine y_icmp_eq (tgt := 150) C (a := -1) (b := -1) dX4_keeps_143 (by decide) (by omega) (fun h143 => ?_) (fun h143 => ?_)
                · refine lv_iconst (v := zI 0) C.1 C.2.1 dX4_keeps_150 (by decide) ?_
                  exact hret _ _ _ _ (zI 0) hS (Or.inr ⟨_, _, xLay_e2 e22 e37, rfl, _, hM.drop, (chg_sx (by decide) (hc1.mono (by decide) (by decide))), h8, h9⟩) rfl dX4_keeps_151
                · exact False.elim (by first | omega | exact h143 rfl)
              · exact False.elim (by first | omega | exact h122 rfl)
            · exact False.elim (by first | omega | exact h95 rfl)
          · exact False.elim (by first | omega | exact h68 rfl)
        · exact False.elim (by first | omega | exact h43 rfl)
  · skip
    refine lv_istore_n (lv' := [(3, zV (-1)), (2, .ref t), (0, .ref (ad 0)), (1, .ref (ad 15))]) C.1 C.2.1 dX4_keeps_25 rfl hl (by decide) rfl (fun ls hl => ?_)
    refine lv_iload_n C.1 C.2.1 dX4_keeps_26 rfl (lv_at hl 0 rfl) ?_
    refine lv_iconst (v := zI (-1)) C.1 C.2.1 dX4_keeps_27 (by decide) ?_
    refine y_icmp_eq (tgt := 41) C (a := -1) (b := -1) dX4_keeps_28 (by decide) (by omega) (fun h28 => ?_) (fun h28 => ?_)
    · refine lv_iload_n C.1 C.2.1 dX4_keeps_41 rfl (lv_at hl 0 rfl) ?_
      refine lv_iconst (v := zI (-1)) C.1 C.2.1 dX4_keeps_42 (by decide) ?_
      refine y_icmp_eq (tgt := 66) C (a := -1) (b := -1) dX4_keeps_43 (by decide) (by omega) (fun h43 => ?_) (fun h43 => ?_)
      · refine lv_iload_n C.1 C.2.1 dX4_keeps_66 rfl (lv_at hl 0 rfl) ?_
        refine lv_iconst (v := zI (-1)) C.1 C.2.1 dX4_keeps_67 (by decide) ?_
        refine y_icmp_eq (tgt := 93) C (a := -1) (b := -1) dX4_keeps_68 (by decide) (by omega) (fun h68 => ?_) (fun h68 => ?_)
        · refine lv_iload_n C.1 C.2.1 dX4_keeps_93 rfl (lv_at hl 0 rfl) ?_
          refine lv_iconst (v := zI (-1)) C.1 C.2.1 dX4_keeps_94 (by decide) ?_
          refine y_icmp_eq (tgt := 120) C (a := -1) (b := -1) dX4_keeps_95 (by decide) (by omega) (fun h95 => ?_) (fun h95 => ?_)
          · refine lv_iload_n C.1 C.2.1 dX4_keeps_120 rfl (lv_at hl 0 rfl) ?_
            refine lv_iconst (v := zI (-1)) C.1 C.2.1 dX4_keeps_121 (by decide) ?_
            refine y_icmp_eq (tgt := 136) C (a := -1) (b := -1) dX4_keeps_122 (by decide) (by omega) (fun h122 => ?_) (fun h122 => ?_)
            · refine lv_aload_n C.1 C.2.1 dX4_keeps_136 rfl (lv_at hl 2 rfl) ?_
              refine lv_iload_n C.1 C.2.1 dX4_keeps_137 rfl (lv_at hl 0 rfl) ?_
              refine z_put C (v := zV (-1)) tyX2 hM.img rfl bi_wsX20 tyX2_ok nmX2 10 (by decide) zw_8_13 rfl rfl rfl rfl (Nat.le_of_ble_eq_true rfl) hS (Or.inl (cA.k 0 (by decide))) dX4_keeps_138 (fun H locs hu hn hS => ?_)
              have hM := hM.sx6 hu hn
              have hB : cSrc (sx (sx (sx τ 8 (zI (r22 : Int))) 9 (zI (w22 : Int))) 6 (zI (-1))) F n := hB.sx (by decide)
              refine lv_iload_n C.1 C.2.1 dX4_keeps_141 rfl (lv_at hl 0 rfl) ?_
              refine lv_iconst (v := zI (-1)) C.1 C.2.1 dX4_keeps_142 (by decide) ?_
              refine y_icmp_eq (tgt := 150) C (a := -1) (b := -1) dX4_keeps_143 (by decide) (by omega) (fun h143 => ?_) (fun h143 => ?_)
              · refine lv_iconst (v := zI 0) C.1 C.2.1 dX4_keeps_150 (by decide) ?_
                exact hret _ _ _ _ (zI 0) hS (Or.inr ⟨_, _, xLay_e1 e22, rfl, _, hM.drop, (chg_sx (by decide) (chg_sx (by decide) (chg_sx (by decide) chg.rf))), rfl, rfl⟩) rfl dX4_keeps_151
              · exact False.elim (by first | omega | exact h143 rfl)
            · exact False.elim (by first | omega | exact h122 rfl)
          · exact False.elim (by first | omega | exact h95 rfl)
        · exact False.elim (by first | omega | exact h68 rfl)
      · exact False.elim (by first | omega | exact h43 rfl)
    · exact False.elim (by first | omega | exact h28 rfl)
