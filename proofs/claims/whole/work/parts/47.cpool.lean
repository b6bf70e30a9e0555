/-! the component: reads in range; the image's and the pool's small methods -/
section CI
variable {Z : zT} {H : Heap} {ad : Nat → Nat} {τ : mS} {X : List (Nat × va_E)} {F : Nat → Nat} {n : Nat}
theorem c_u1 (l : Launch) (Z : zT) {H : Heap} {τ : mS} (hM : isC Z H ad τ X) (hB : cSrc τ F n) (k : Nat) {t : Int} (ht : t = (k : Int)) (hk : k < n) : zP l Z yX1_u1 cX1_u1 2 (some .int) (rmk 1) [.ref (ad 1), zV t] H (zN (F k)) := by
  subst ht
  have hn := hB.2.2.2
  have h := c_X1_u1 l Z hM hB (k : Int) (by omega)
  rw [B1_in hk] at h
  exact h
theorem c_u2 (l : Launch) (Z : zT) {H : Heap} {τ : mS} (hM : isC Z H ad τ X) (hB : cSrc τ F n) (k : Nat) {t : Int} (ht : t = (k : Int)) (hk : k + 2 ≤ n) : zP l Z yX1_u2 cX1_u2 2 (some .int) (rmk 1) [.ref (ad 1), zV t] H (zN (U2 F k)) := by
  subst ht
  have hn := hB.2.2.2
  have h := c_X1_u2 l Z hM hB (k : Int) (by omega)
  rw [B2_in hk] at h
  exact h
theorem c_s4 (l : Launch) (Z : zT) {H : Heap} {τ : mS} (hM : isC Z H ad τ X) (hB : cSrc τ F n) (k : Nat) {t : Int} (ht : t = (k : Int)) (hk : k + 4 ≤ n) : zP l Z yX1_s4 cX1_s4 2 (some .int) (rmk 1) [.ref (ad 1), zV t] H (zV (S4 F k)) := by
  subst ht
  have hn := hB.2.2.2
  have h := c_X1_s4 l Z hM hB (k : Int) (by omega)
  rw [B4_in hk] at h
  exact h
theorem c_s1 (l : Launch) (Z : zT) {H : Heap} {τ : mS} (hM : isC Z H ad τ X) (hB : cSrc τ F n) (k : Nat) {t : Int} (ht : t = (k : Int)) (hk : k < n) : zP l Z yX1_s1 cX1_s1 2 (some .int) (rmk 2) [.ref (ad 1), zV t] H (zV (sb (F k))) := by
  subst ht
  have hn := hB.2.2.2
  have h := c_X1_s1 l Z hM hB (k : Int) (by omega)
  rw [B1_in hk] at h
  exact h
theorem c_s2 (l : Launch) (Z : zT) {H : Heap} {τ : mS} (hM : isC Z H ad τ X) (hB : cSrc τ F n) (k : Nat) {t : Int} (ht : t = (k : Int)) (hk : k + 2 ≤ n) : zP l Z yX1_s2 cX1_s2 2 (some .int) (rmk 2) [.ref (ad 1), zV t] H (zV (S2 F k)) := by
  subst ht
  have hn := hB.2.2.2
  have h := c_X1_s2 l Z hM hB (k : Int) (by omega)
  rw [B2_in hk] at h
  exact h
theorem c_at (l : Launch) (Z : zT) {H : Heap} {a L : Nat} {f : Nat → Int32} (hP : zAt Z H a (.inl (Z.2.1 1, (L, .inl f)))) (hL : L < 2147483648) (k : Nat) {t : Int} (ht : t = (k : Int)) (hk : k < L) : zP l Z yX11_at cX11_at 2 (some .int) (rmk 1) [.ref a, zV t] H (.int (f k)) := by
  subst ht
  have h := c_X11_at l Z hP hL (k : Int) (by omega)
  rw [rAt_in hk] at h
  exact h
end CI
theorem tg_lt {F : Nat → Nat} (hF : isF F) (tb : Nat → Nat) (k : Nat) : tg F tb k < 256 := by unfold tg; split; omega; exact hF _
/-- the pool's rows up to pc -/
def lnE (F tb : Nat → Nat) (k : Nat) : Nat := if tg F tb k = 1 then nL F tb k else 0
def cPl (τ : mS) (F tb : Nat → Nat) (pc : Nat) : Prop := τ.1 1 = zI (pc : Int) ∧ pc ≤ 500 ∧ ∀ k, k < pc → τ.2.1 4 k = zI (tb k : Int) ∧ τ.2.1 5 k = zI (tg F tb k : Int) ∧ τ.2.1 6 k = zI (lnE F tb k : Int)
theorem cPl.chg {τ τ' : mS} {F tb : Nat → Nat} {pc : Nat} {xs fs : List Nat} (h : cPl τ F tb pc) (hc : chg xs fs τ τ') (h1 : 1 ∉ xs) (h4 : 4 ∉ fs ∧ 5 ∉ fs ∧ 6 ∉ fs) : cPl τ' F tb pc :=
  ⟨by rw [hc.1 1 h1]; exact h.1, h.2.1, fun k hk => by rw [hc.2.1 4 h4.1, hc.2.1 5 h4.2.1, hc.2.1 6 h4.2.2]; exact h.2.2 k hk⟩
/-- entry k is a NAME -/
def pNm (F : Nat → Nat) (n : Nat) (tb : Nat → Nat) (k : Nat) : Prop := tg F tb k = 1 ∧ 1 ≤ nL F tb k ∧ nL F tb k ≤ 100 ∧ tb k + 3 + nL F tb k ≤ n ∧ ∀ i, i < nL F tb k → F (tb k + 3 + i) < 128
theorem pNm.ln {F : Nat → Nat} {n : Nat} {tb : Nat → Nat} {k : Nat} (h : pNm F n tb k) : lnE F tb k = nL F tb k := if_pos h.1
/-- a type's kind at letter i -/
def kd (F : Nat → Nat) (fp ln i : Nat) : Nat := if nmC F fp ln i = 73 then 1 else if nmC F fp ln i = 74 then 2 else if nmC F fp ln i = 91 ∧ nmC F fp ln (i + 1) = 73 then 4 else 0
def ltO (k : Nat) : Nat := if k = 4 then 2 else 1
def kdW (F : Nat → Nat) (fp ln i : Nat) : Nat := if kd F fp ln i ≠ 0 ∧ i + ltO (kd F fp ln i) = ln then kd F fp ln i else 0
theorem kd_ty (F : Nat → Nat) (fp ln i : Nat) : (kd F fp ln i = 0 → tyAt F fp ln i = 0) ∧ (kd F fp ln i ≠ 0 → tyAt F fp ln i = ltO (kd F fp ln i)) ∧ kd F fp ln i ≤ 4 ∧ (kd F fp ln i = 2 ↔ nmC F fp ln i = 74) := by
  unfold kd tyAt ltO
  refine ⟨?_, ?_, ?_, ?_⟩ <;> ((repeat' split) <;> omega)
theorem kd_in {F : Nat → Nat} {fp ln i : Nat} (h : kd F fp ln i ≠ 0) : i + ltO (kd F fp ln i) ≤ ln := by
  unfold kd at *
  unfold ltO
  by_cases a : nmC F fp ln i = 73
  · have := nmC_pos (F := F) (fp := fp) (ln := ln) (i := i) (by omega)
    rw [if_pos a]; split <;> omega
  · by_cases b : nmC F fp ln i = 74
    · have := nmC_pos (F := F) (fp := fp) (ln := ln) (i := i) (by omega)
      rw [if_neg a, if_pos b]; split <;> omega
    · by_cases c : nmC F fp ln i = 91 ∧ nmC F fp ln (i + 1) = 73
      · have := nmC_pos (F := F) (fp := fp) (ln := ln) (i := i + 1) (by omega)
        rw [if_neg a, if_neg b, if_pos c]; split <;> omega
      · rw [if_neg a, if_neg b, if_neg c] at h; omega
theorem mono_lt {g : Nat → Int} {N a b : Nat} (h : ∀ j k, j < k → k < N → g j < g k) (ha : a < N) (e : g a < g b) : a < b := by
  rcases Nat.lt_or_ge a b with q | q
  · exact q
  · rcases Nat.lt_or_eq_of_le q with r | r
    · have := h b a r ha; omega
    · subst r; omega
/-- where instruction u of method t stands; -1 if there is none -/
def inP (τ : mS) (nm : Nat) (fr rn : Nat → Nat) (t u : Int) : Int32 := if (0 ≤ t ∧ t < (nm : Int)) ∧ 0 ≤ u ∧ u < (rn t.toNat : Int) then τ.2.1 14 (fr t.toNat + u.toNat) else zI (-1)

theorem c_put (l : Launch) (Z : zT) {H : Heap} {ad : Nat → Nat} {τ : mS} {X : List (Nat × va_E)} (hM : isC Z H ad τ X) (r : Nat) (hr : r ∈ cIdx) (k : Nat) {t : Int} (ht : t = (k : Int)) (hk : k < cLen r) (x : Int32) : zM l Z yX11_put cX11_put 3 none (rmk 1) [.ref (ad r), zV t, .int x] H (fun q => q = ad r) 0 0 (fun v H' => v = none ∧ isC Z H' ad (sf τ r (upd (τ.2.1 r) k x)) X) := by
  subst ht
  have hc : cLen r ≤ 16000 := by unfold cLen; split; omega; split <;> omega
  refine zM.introV (own := RX11) ⟨by decide, rfl⟩ (Nat.le_of_ble_eq_true rfl) ?_
  intro p e s m args below meth c Q ls hH C hnm hl hret
  have hS : va_S (fun q => q = ad r) s.heap H [] := by rw [hH]; exact va_S.rf
  have hl : lv_has ls 3 [(0, .ref (ad r)), (1, zN k), (2, .int x)] := hl
  refine lv_iload_n C.1 C.2.1 dX11_put_0 rfl (lv_at hl 1 rfl) ?_
  refine y_if_lt (tgt := 14) C (a := ((k : Nat) : Int)) dX11_put_1 (by decide) (by omega) (fun h1 => ?_) (fun h1 => ?_)
  · exact False.elim (by omega)
  · refine lv_iload_n C.1 C.2.1 dX11_put_4 rfl (lv_at hl 1 rfl) ?_
    refine lv_aload_n C.1 C.2.1 dX11_put_5 rfl (lv_at hl 0 rfl) ?_
    refine z_alen C (hM.row r hr) (ti := 1) rfl dX11_put_6 ?_
    refine z_re (y := zI (cLen r : Int)) (zI_nat _).symm ?_
    refine y_icmp_ge (tgt := 14) C (a := ((k : Nat) : Int)) (b := ((cLen r : Nat) : Int)) dX11_put_7 (by decide) (by omega) (fun h7 => ?_) (fun h7 => ?_)
    · exact False.elim (by omega)
    · refine lv_aload_n C.1 C.2.1 dX11_put_10 rfl (lv_at hl 0 rfl) ?_
      refine lv_iload_n C.1 C.2.1 dX11_put_11 rfl (lv_at hl 1 rfl) ?_
      refine lv_iload_n C.1 C.2.1 dX11_put_12 rfl (lv_at hl 2 rfl) ?_
      refine z_iast C (x := x) (hM.row r hr) k (zI_nat _) hk (by omega) hS (rfl : ad r = ad r) dX11_put_13 (fun H locs hu hn hS => ?_)
      have hM := hM.sfk hr hu hn
      exact hret _ _ _ _ hS ⟨rfl, hM⟩ dX11_put_14

set_option maxHeartbeats 4000000 in
set_option maxRecDepth 20000 in
theorem c_X2_nameOf (l : Launch) (Z : zT) {H : Heap} {ad : Nat → Nat} {τ : mS} {X : List (Nat × va_E)} (hM : isC Z H ad τ X) {F : Nat → Nat} {n : Nat} (hB : cSrc τ F n) {t : Int} (k : Nat) (ht : t = (k : Int)) (hk : k + 4 ≤ n) : zP l Z yX2_nameOf cX2_nameOf 2 (some .int) (rmk 2) [.ref (ad 0), zV t] H (zN (U2 F (k + 2))) := by
  subst ht
  have hn := hB.2.2.2
  refine zM.introI (own := RX2) ⟨by decide, rfl⟩ (Nat.le_of_ble_eq_true rfl) ?_
  intro p e s m args below meth c Q ls hH C hl hret
  have hS : va_S (fun _ => False) s.heap H [] := by rw [hH]; exact va_S.rf
  have hl : lv_has ls 2 [(0, .ref (ad 0)), (1, zN k)] := hl
  refine lv_aload_n C.1 C.2.1 dX2_nameOf_0 rfl (lv_at hl 0 rfl) ?_
  refine z_get C (v := .ref (ad 1)) hM.img rfl bi_wsX20 0 (by decide) zw_2_16 rfl rfl dX2_nameOf_1 ?_
  refine lv_iload_n C.1 C.2.1 dX2_nameOf_4 rfl (lv_at hl 1 rfl) ?_
  refine lv_iconst (v := zI 2) C.1 C.2.1 dX2_nameOf_5 (by decide) ?_
  refine y_iaddN C (a := k) (b := 2) dX2_nameOf_6 ?_
  refine z_readV C (As := [zN (k + 2)]) (rest := []) (c_u2 l Z hM hB (k + 2) rfl (by omega)) hM.byt rfl ⟨⟨zw_10_5, zw_2_15, zw_15_8⟩, zd_X1_u2⟩ zw_10_3 zw_10_4 ⟨Nat.le_of_ble_eq_true rfl, Nat.le_of_ble_eq_true rfl⟩ ⟨rfl, rfl⟩ rfl hl.1 rfl (Nat.le_of_ble_eq_true rfl) dX2_nameOf_7 ⟨Nat.zero_le _, Nat.zero_le _⟩ hS (fun locs hS => ?_)
  have := U2_lt hB.1 (k + 2)
  exact hret _ _ _ _ (zI ((U2 F (k + 2) : Nat) : Int)) hS ⟨rfl, rfl⟩ rfl dX2_nameOf_10

set_option maxHeartbeats 4000000 in
set_option maxRecDepth 20000 in
theorem c_X2_typeOf (l : Launch) (Z : zT) {H : Heap} {ad : Nat → Nat} {τ : mS} {X : List (Nat × va_E)} (hM : isC Z H ad τ X) {F : Nat → Nat} {n : Nat} (hB : cSrc τ F n) {t : Int} (k : Nat) (ht : t = (k : Int)) (hk : k + 6 ≤ n) : zP l Z yX2_typeOf cX2_typeOf 2 (some .int) (rmk 2) [.ref (ad 0), zV t] H (zN (U2 F (k + 4))) := by
  subst ht
  have hn := hB.2.2.2
  refine zM.introI (own := RX2) ⟨by decide, rfl⟩ (Nat.le_of_ble_eq_true rfl) ?_
  intro p e s m args below meth c Q ls hH C hl hret
  have hS : va_S (fun _ => False) s.heap H [] := by rw [hH]; exact va_S.rf
  have hl : lv_has ls 2 [(0, .ref (ad 0)), (1, zN k)] := hl
  refine lv_aload_n C.1 C.2.1 dX2_typeOf_0 rfl (lv_at hl 0 rfl) ?_
  refine z_get C (v := .ref (ad 1)) hM.img rfl bi_wsX20 0 (by decide) zw_2_16 rfl rfl dX2_typeOf_1 ?_
  refine lv_iload_n C.1 C.2.1 dX2_typeOf_4 rfl (lv_at hl 1 rfl) ?_
  refine lv_iconst (v := zI 4) C.1 C.2.1 dX2_typeOf_5 (by decide) ?_
  refine y_iaddN C (a := k) (b := 4) dX2_typeOf_6 ?_
  refine z_readV C (As := [zN (k + 4)]) (rest := []) (c_u2 l Z hM hB (k + 4) rfl (by omega)) hM.byt rfl ⟨⟨zw_10_5, zw_2_15, zw_15_8⟩, zd_X1_u2⟩ zw_10_3 zw_10_4 ⟨Nat.le_of_ble_eq_true rfl, Nat.le_of_ble_eq_true rfl⟩ ⟨rfl, rfl⟩ rfl hl.1 rfl (Nat.le_of_ble_eq_true rfl) dX2_typeOf_7 ⟨Nat.zero_le _, Nat.zero_le _⟩ hS (fun locs hS => ?_)
  have := U2_lt hB.1 (k + 4)
  exact hret _ _ _ _ (zI ((U2 F (k + 4) : Nat) : Int)) hS ⟨rfl, rfl⟩ rfl dX2_typeOf_10

set_option maxHeartbeats 4000000 in
set_option maxRecDepth 20000 in
theorem c_bodyOf (l : Launch) (Z : zT) {H : Heap} {ad : Nat → Nat} {τ : mS} {X : List (Nat × va_E)} (hM : isC Z H ad τ X) {nm : Nat} (hx3 : τ.1 3 = zI (nm : Int)) (hnm : nm ≤ 24) {t : Int} (k : Nat) (ht : t = (k : Int)) (hk : k < nm) : zP l Z yX2_bodyOf cX2_bodyOf 2 (some (.object "FileRules$Body")) (rmk 1) [.ref (ad 0), zV t] H (.ref (ad (16 + k))) := by
  subst ht
  refine zM.introA (own := RX2) ⟨by decide, rfl⟩ (Nat.le_of_ble_eq_true rfl) ?_
  intro p e s m args below meth c Q ls hH C hl hret
  have hS : va_S (fun _ => False) s.heap H [] := by rw [hH]; exact va_S.rf
  have hl : lv_has ls 2 [(0, .ref (ad 0)), (1, zN k)] := hl
  refine lv_iload_n C.1 C.2.1 dX2_bodyOf_0 rfl (lv_at hl 1 rfl) ?_
  refine y_if_lt (tgt := 30) C (a := ((k : Nat) : Int)) dX2_bodyOf_1 (by decide) (by omega) (fun h1 => ?_) (fun h1 => ?_)
  · exact False.elim (by omega)
  · refine lv_iload_n C.1 C.2.1 dX2_bodyOf_4 rfl (lv_at hl 1 rfl) ?_
    refine lv_aload_n C.1 C.2.1 dX2_bodyOf_5 rfl (lv_at hl 0 rfl) ?_
    refine z_get C (v := .int (τ.1 3)) hM.img rfl bi_wsX20 7 (by decide) zw_3_6 rfl rfl dX2_bodyOf_6 ?_
    refine z_re (y := zI ((nm : Nat) : Int)) hx3 ?_
    refine y_icmp_ge (tgt := 30) C (a := ((k : Nat) : Int)) (b := ((nm : Nat) : Int)) dX2_bodyOf_9 (by decide) (by omega) (fun h9 => ?_) (fun h9 => ?_)
    · exact False.elim (by omega)
    · refine lv_iload_n C.1 C.2.1 dX2_bodyOf_12 rfl (lv_at hl 1 rfl) ?_
      refine lv_aload_n C.1 C.2.1 dX2_bodyOf_13 rfl (lv_at hl 0 rfl) ?_
      refine z_get C (v := .ref (ad 13)) hM.img rfl bi_wsX20 4 (by decide) zw_3_1 rfl rfl dX2_bodyOf_14 ?_
      refine z_alen C hM.bds (ti := 3) rfl dX2_bodyOf_17 ?_
      refine z_re (y := zI 24) rfl ?_
      refine y_icmp_ge (tgt := 30) C (a := ((k : Nat) : Int)) (b := 24) dX2_bodyOf_18 (by decide) (by omega) (fun h18 => ?_) (fun h18 => ?_)
      · exact False.elim (by omega)
      · refine lv_aload_n C.1 C.2.1 dX2_bodyOf_21 rfl (lv_at hl 0 rfl) ?_
        refine z_get C (v := .ref (ad 13)) hM.img rfl bi_wsX20 4 (by decide) zw_3_1 rfl rfl dX2_bodyOf_22 ?_
        refine lv_iload_n C.1 C.2.1 dX2_bodyOf_25 rfl (lv_at hl 1 rfl) ?_
        refine z_aaldq C hM.bds k (zI_nat _) (by omega) (by decide) dX2_bodyOf_26 ?_
        refine lv_goto (tgt := 31) C.1 C.2.1 dX2_bodyOf_27 (by decide) ?_
        exact hret _ _ _ _ (.ref (ad (16 + k))) hS ⟨rfl, rfl⟩ (Or.inr ⟨_, rfl⟩) dX2_bodyOf_31

set_option maxHeartbeats 4000000 in
set_option maxRecDepth 20000 in
theorem c_bodyOf0 (l : Launch) (Z : zT) {H : Heap} {ad : Nat → Nat} {τ : mS} {X : List (Nat × va_E)} (hM : isC Z H ad τ X) {nm : Nat} (hx3 : τ.1 3 = zI (nm : Int)) (hnm : nm ≤ 24) (t : Int) (ht : -2147483648 ≤ t ∧ t < 2147483648) (hk : ¬ (0 ≤ t ∧ t < (nm : Int))) : zP l Z yX2_bodyOf cX2_bodyOf 2 (some (.object "FileRules$Body")) (rmk 1) [.ref (ad 0), zV t] H (.null) := by
  refine zM.introA (own := RX2) ⟨by decide, rfl⟩ (Nat.le_of_ble_eq_true rfl) ?_
  intro p e s m args below meth c Q ls hH C hl hret
  have hS : va_S (fun _ => False) s.heap H [] := by rw [hH]; exact va_S.rf
  have hl : lv_has ls 2 [(0, .ref (ad 0)), (1, zV t)] := hl
  refine lv_iload_n C.1 C.2.1 dX2_bodyOf_0 rfl (lv_at hl 1 rfl) ?_
  refine y_if_lt (tgt := 30) C (a := t) dX2_bodyOf_1 (by decide) (by omega) (fun h1 => ?_) (fun h1 => ?_)
  · refine lv_null C.1 C.2.1 dX2_bodyOf_30 ?_
    exact hret _ _ _ _ (.null) hS ⟨rfl, rfl⟩ (Or.inl rfl) dX2_bodyOf_31
  · refine lv_iload_n C.1 C.2.1 dX2_bodyOf_4 rfl (lv_at hl 1 rfl) ?_
    refine lv_aload_n C.1 C.2.1 dX2_bodyOf_5 rfl (lv_at hl 0 rfl) ?_
    refine z_get C (v := .int (τ.1 3)) hM.img rfl bi_wsX20 7 (by decide) zw_3_6 rfl rfl dX2_bodyOf_6 ?_
    refine z_re (y := zI ((nm : Nat) : Int)) hx3 ?_
    refine y_icmp_ge (tgt := 30) C (a := t) (b := ((nm : Nat) : Int)) dX2_bodyOf_9 (by decide) (by omega) (fun h9 => ?_) (fun h9 => ?_)
    · refine lv_null C.1 C.2.1 dX2_bodyOf_30 ?_
      exact hret _ _ _ _ (.null) hS ⟨rfl, rfl⟩ (Or.inl rfl) dX2_bodyOf_31
    · exact False.elim (by omega)

set_option maxHeartbeats 4000000 in
set_option maxRecDepth 20000 in
theorem c_insP1 (l : Launch) (Z : zT) {H : Heap} {ad : Nat → Nat} {τ : mS} {X : List (Nat × va_E)} (hM : isC Z H ad τ X) {nm : Nat} (hx3 : τ.1 3 = zI (nm : Int)) (hnm : nm ≤ 24) {fr rn : Nat → Nat} (hb : ∀ j, j < nm → τ.2.1 28 j = zI (fr j : Int) ∧ τ.2.1 29 j = zI (rn j : Int) ∧ fr j + rn j ≤ 16000) (k : Nat) (hk : k < nm) (u : Int) (hu : -2147483648 ≤ u ∧ u < 2147483648) : zP l Z yX2_instructionPlace cX2_instructionPlace 4 (some .int) (rmk 2) [.ref (ad 0), zN k, zV u] H (.int (inP τ nm fr rn (k : Int) u)) := by
  have hb0 := (hb k hk).2.2
  refine zM.introI (own := RX2) ⟨by decide, rfl⟩ (Nat.le_of_ble_eq_true rfl) ?_
  intro p e s m args below meth c Q ls hH C hl hret
  have hS : va_S (fun _ => False) s.heap H [] := by rw [hH]; exact va_S.rf
  have hl : lv_has ls 4 [(0, .ref (ad 0)), (1, zN k), (2, zV u)] := hl
  refine lv_aload_n C.1 C.2.1 dX2_instructionPlace_0 rfl (lv_at hl 0 rfl) ?_
  refine lv_iload_n C.1 C.2.1 dX2_instructionPlace_1 rfl (lv_at hl 1 rfl) ?_
  refine z_readV C (As := [zN k]) (rest := []) (c_bodyOf l Z hM hx3 hnm k rfl (by omega)) hM.img rfl ⟨⟨zw_16_18, zw_1_18, zw_38_12⟩, zd_X2_bodyOf⟩ zw_16_16 zw_16_17 ⟨Nat.le_of_ble_eq_true rfl, Nat.le_of_ble_eq_true rfl⟩ ⟨rfl, rfl⟩ rfl hl.1 rfl (Nat.le_of_ble_eq_true rfl) dX2_instructionPlace_2 ⟨Nat.zero_le _, Nat.zero_le _⟩ hS (fun locs hS => ?_)
  refine lv_astore_n (lv' := [(3, .ref (ad (16 + k))), (0, .ref (ad 0)), (1, zN k), (2, zV u)]) C.1 C.2.1 dX2_instructionPlace_5 rfl hl (by decide) rfl (fun ls hl => ?_)
  refine lv_aload_n C.1 C.2.1 dX2_instructionPlace_6 rfl (lv_at hl 0 rfl) ?_
  refine lv_ifnull C.1 C.2.1 dX2_instructionPlace_7 ?_
  refine lv_iload_n C.1 C.2.1 dX2_instructionPlace_10 rfl (lv_at hl 3 rfl) ?_
  refine y_if_lt (tgt := 22) C (a := u) dX2_instructionPlace_11 (by decide) (by omega) (fun h11 => ?_) (fun h11 => ?_)
  · refine lv_iconst (v := zI (-1)) C.1 C.2.1 dX2_instructionPlace_22 (by decide) ?_
    exact hret _ _ _ _ (zI (-1)) hS ⟨congrArg (fun x : Int32 => some (Value.int x)) (by unfold inP; rw [if_neg (fun z => by have := z.2; rw [Int.toNat_natCast] at this; omega)]), rfl⟩ rfl dX2_instructionPlace_23
  · refine lv_iload_n C.1 C.2.1 dX2_instructionPlace_14 rfl (lv_at hl 3 rfl) ?_
    refine lv_aload_n C.1 C.2.1 dX2_instructionPlace_15 rfl (lv_at hl 0 rfl) ?_
    refine z_get C (v := .int (τ.2.1 29 k)) (hM.bod k (by omega)) rfl bi_wsX00 9 (by decide) zw_24_4 rfl rfl dX2_instructionPlace_16 ?_
    refine z_re (y := zI ((rn k : Nat) : Int)) ((hb k (by omega)).2.1) ?_
    refine y_icmp_lt (tgt := 24) C (a := u) (b := ((rn k : Nat) : Int)) dX2_instructionPlace_19 (by decide) (by omega) (fun h19 => ?_) (fun h19 => ?_)
    · refine lv_aload_n C.1 C.2.1 dX2_instructionPlace_24 rfl (lv_at hl 1 rfl) ?_
      refine z_get C (v := .ref (ad 14)) hM.img rfl bi_wsX20 5 (by decide) zw_3_4 rfl rfl dX2_instructionPlace_25 ?_
      refine lv_aload_n C.1 C.2.1 dX2_instructionPlace_28 rfl (lv_at hl 0 rfl) ?_
      refine z_get C (v := .int (τ.2.1 28 k)) (hM.bod k (by omega)) rfl bi_wsX00 8 (by decide) zw_24_5 rfl rfl dX2_instructionPlace_29 ?_
      refine z_re (y := zI ((fr k : Nat) : Int)) ((hb k (by omega)).1) ?_
      refine lv_iload_n C.1 C.2.1 dX2_instructionPlace_32 rfl (lv_at hl 3 rfl) ?_
      refine y_iadd C (a := ((fr k : Nat) : Int)) (b := u) dX2_instructionPlace_33 ?_
      refine z_readSN C (As := [.ref (ad 14), zV (((fr k : Nat) : Int) + u)]) (rest := []) (c_at l Z (hM.row 14 (by decide)) (by decide) (fr k + u.toNat) (by omega) (by show _ < 16000; omega)) ⟨⟨zw_11_13, zw_1_2⟩, zd_X11_at⟩ (by decide) zw_11_12 ⟨Nat.le_of_ble_eq_true rfl, Nat.le_of_ble_eq_true rfl⟩ ⟨rfl, rfl⟩ rfl hl.1 rfl (Nat.le_of_ble_eq_true rfl) dX2_instructionPlace_34 ⟨Nat.zero_le _, Nat.zero_le _⟩ hS (fun locs hS => ?_)
      exact hret _ _ _ _ (τ.2.1 14 (fr k + u.toNat)) hS ⟨congrArg (fun x : Int32 => some (Value.int x)) (by unfold inP; rw [if_pos ⟨by omega, by omega, by rw [Int.toNat_natCast]; omega⟩, Int.toNat_natCast]), rfl⟩ rfl dX2_instructionPlace_37
    · refine lv_iconst (v := zI (-1)) C.1 C.2.1 dX2_instructionPlace_22 (by decide) ?_
      exact hret _ _ _ _ (zI (-1)) hS ⟨congrArg (fun x : Int32 => some (Value.int x)) (by unfold inP; rw [if_neg (fun z => by have := z.2; rw [Int.toNat_natCast] at this; omega)]), rfl⟩ rfl dX2_instructionPlace_23

set_option maxHeartbeats 4000000 in
set_option maxRecDepth 20000 in
theorem c_insP0 (l : Launch) (Z : zT) {H : Heap} {ad : Nat → Nat} {τ : mS} {X : List (Nat × va_E)} (hM : isC Z H ad τ X) {nm : Nat} (hx3 : τ.1 3 = zI (nm : Int)) (hnm : nm ≤ 24) {fr rn : Nat → Nat} (hb : ∀ j, j < nm → τ.2.1 28 j = zI (fr j : Int) ∧ τ.2.1 29 j = zI (rn j : Int) ∧ fr j + rn j ≤ 16000) (t : Int) (ht : -2147483648 ≤ t ∧ t < 2147483648) (hk : ¬ (0 ≤ t ∧ t < (nm : Int))) (u : Int) : zP l Z yX2_instructionPlace cX2_instructionPlace 4 (some .int) (rmk 2) [.ref (ad 0), zV t, zV u] H (.int (inP τ nm fr rn t u)) := by
  refine zM.introI (own := RX2) ⟨by decide, rfl⟩ (Nat.le_of_ble_eq_true rfl) ?_
  intro p e s m args below meth c Q ls hH C hl hret
  have hS : va_S (fun _ => False) s.heap H [] := by rw [hH]; exact va_S.rf
  have hl : lv_has ls 4 [(0, .ref (ad 0)), (1, zV t), (2, zV u)] := hl
  refine lv_aload_n C.1 C.2.1 dX2_instructionPlace_0 rfl (lv_at hl 0 rfl) ?_
  refine lv_iload_n C.1 C.2.1 dX2_instructionPlace_1 rfl (lv_at hl 1 rfl) ?_
  refine z_readV C (As := [zV t]) (rest := []) (c_bodyOf0 l Z hM hx3 hnm t (by omega) (by omega)) hM.img rfl ⟨⟨zw_16_18, zw_1_18, zw_38_12⟩, zd_X2_bodyOf⟩ zw_16_16 zw_16_17 ⟨Nat.le_of_ble_eq_true rfl, Nat.le_of_ble_eq_true rfl⟩ ⟨rfl, rfl⟩ rfl hl.1 rfl (Nat.le_of_ble_eq_true rfl) dX2_instructionPlace_2 ⟨Nat.zero_le _, Nat.zero_le _⟩ hS (fun locs hS => ?_)
  refine lv_astore_nN (lv' := [(3, .null), (0, .ref (ad 0)), (1, zV t), (2, zV u)]) C.1 C.2.1 dX2_instructionPlace_5 rfl hl (by decide) rfl (fun ls hl => ?_)
  refine lv_aload_nN C.1 C.2.1 dX2_instructionPlace_6 rfl (lv_at hl 0 rfl) ?_
  refine lv_ifnullN (tgt := 22) C.1 C.2.1 dX2_instructionPlace_7 (by decide) ?_
  refine lv_iconst (v := zI (-1)) C.1 C.2.1 dX2_instructionPlace_22 (by decide) ?_
  exact hret _ _ _ _ (zI (-1)) hS ⟨congrArg (fun x : Int32 => some (Value.int x)) (by unfold inP; rw [if_neg (fun z => hk z.1)]), rfl⟩ rfl dX2_instructionPlace_23

set_option maxHeartbeats 4000000 in
set_option maxRecDepth 20000 in
theorem c_X2_numberAt (l : Launch) (Z : zT) {H : Heap} {ad : Nat → Nat} {τ : mS} {X : List (Nat × va_E)} (hM : isC Z H ad τ X) {g : Nat → Int} {N f0 bm : Nat} (hbm : bm < 24) (h28 : τ.2.1 28 bm = zI (f0 : Int)) (h29 : τ.2.1 29 bm = zI (N : Int)) (hN : f0 + N ≤ 16000) (hg : ∀ j, j < N → τ.2.1 14 (f0 + j) = zI (g j)) (hr : ∀ j, j < N → 0 ≤ g j ∧ g j < 2147483648) (hm : ∀ j k, j < k → k < N → g j < g k) (t : Int) (ht : -2147483648 ≤ t ∧ t < 2147483648) : zP l Z yX2_numberAt cX2_numberAt 7 (some .int) (rmk 2) [.ref (ad 0), .ref (ad (16 + bm)), zV t] H (zV (nbG g N t)) := by
  refine zM.introI (own := RX2) ⟨by decide, rfl⟩ (Nat.le_of_ble_eq_true rfl) ?_
  intro p e s m args below meth c Q ls hH C hl hret
  have hS : va_S (fun _ => False) s.heap H [] := by rw [hH]; exact va_S.rf
  have hl : lv_has ls 7 [(0, .ref (ad 0)), (1, .ref (ad (16 + bm))), (2, zV t)] := hl
  refine lv_iconst (v := zI 0) C.1 C.2.1 dX2_numberAt_0 (by decide) ?_
  refine lv_istore_n (lv' := [(3, zN 0), (0, .ref (ad 0)), (1, .ref (ad (16 + bm))), (2, zV t)]) C.1 C.2.1 dX2_numberAt_1 rfl hl (by decide) rfl (fun ls hl => ?_)
  refine lv_aload_n C.1 C.2.1 dX2_numberAt_2 rfl (lv_at hl 2 rfl) ?_
  refine z_get C (v := .int (τ.2.1 29 bm)) (hM.bod bm (by omega)) rfl bi_wsX00 9 (by decide) zw_24_4 rfl rfl dX2_numberAt_3 ?_
  refine z_re (y := zI ((N : Nat) : Int)) h29 ?_
  refine lv_iconst (v := zI 1) C.1 C.2.1 dX2_numberAt_6 (by decide) ?_
  refine y_isub C (a := ((N : Nat) : Int)) (b := 1) dX2_numberAt_7 ?_
  refine lv_istore (lv' := [(4, zV (((N : Nat) : Int) - 1)), (3, zN 0), (0, .ref (ad 0)), (1, .ref (ad (16 + bm))), (2, zV t)]) C.1 C.2.1 dX2_numberAt_8 hl (by decide) rfl (fun ls hl => ?_)
  have loop : ∀ (fu : Nat) (x : Nat) (y : Int) (ls : Array Slot) (locs : List Loc), va_S (fun _ => False) s.heap H locs → (x ≤ N ∧ (x : Int) ≤ y + 1) → (-1 ≤ y ∧ y < (N : Int)) → (y + 1 < (x : Int) + fu) → (∀ j, j < N → g j = t → x ≤ j ∧ (j : Int) ≤ y) → lv_has ls 7 [(4, zV y), (3, zN x), (0, .ref (ad 0)), (1, .ref (ad (16 + bm))), (2, zV t)] → W p l e (rmk 2) s m args below meth c H locs 0 0 Q (F0 m 10 ls []) := by
    intro fu
    induction fu with
    | zero =>
      intro x y ls locs hS hx hy hf hi hl
      omega
    | succ fu ih_loop =>
      intro x y ls locs hS hx hy hf hi hl
      refine lv_iload_n C.1 C.2.1 dX2_numberAt_10 rfl (lv_at hl 1 rfl) ?_
      refine lv_iload C.1 C.2.1 dX2_numberAt_11 (lv_at hl 0 rfl) ?_
      refine y_icmp_gt (tgt := 72) C (a := ((x : Nat) : Int)) (b := y) dX2_numberAt_13 (by decide) (by omega) (fun h13 => ?_) (fun h13 => ?_)
      · refine lv_iconst (v := zI (-1)) C.1 C.2.1 dX2_numberAt_72 (by decide) ?_
        exact hret _ _ _ _ (zI (-1)) hS ⟨congrArg (fun x : Int => some (zV x)) (by exact (nbG_no N (fun j hj e => by have := hi j hj e; omega)).symm), rfl⟩ rfl dX2_numberAt_73
      · refine lv_iload_n C.1 C.2.1 dX2_numberAt_16 rfl (lv_at hl 1 rfl) ?_
        refine lv_iload C.1 C.2.1 dX2_numberAt_17 (lv_at hl 0 rfl) ?_
        refine y_iadd C (a := ((x : Nat) : Int)) (b := y) dX2_numberAt_19 ?_
        refine z_re (y := zI ((x + y.toNat : Nat) : Int)) (zI_c (by omega)) ?_
        refine lv_iconst (v := zI 1) C.1 C.2.1 dX2_numberAt_20 (by decide) ?_
        refine lv_ishr C.1 C.2.1 dX2_numberAt_21 ?_
        refine z_re (y := zI (((x + y.toNat) / 2 : Nat) : Int)) (zI_half _ (by omega)) ?_
        refine lv_istore (lv' := [(5, zN ((x + y.toNat) / 2)), (4, zV y), (3, zN x), (0, .ref (ad 0)), (1, .ref (ad (16 + bm))), (2, zV t)]) C.1 C.2.1 dX2_numberAt_22 hl (by decide) rfl (fun ls hl => ?_)
        refine lv_aload_n C.1 C.2.1 dX2_numberAt_24 rfl (lv_at hl 3 rfl) ?_
        refine z_get C (v := .ref (ad 14)) hM.img rfl bi_wsX20 5 (by decide) zw_3_4 rfl rfl dX2_numberAt_25 ?_
        refine lv_aload_n C.1 C.2.1 dX2_numberAt_28 rfl (lv_at hl 4 rfl) ?_
        refine z_get C (v := .int (τ.2.1 28 bm)) (hM.bod bm (by omega)) rfl bi_wsX00 8 (by decide) zw_24_5 rfl rfl dX2_numberAt_29 ?_
        refine z_re (y := zI ((f0 : Nat) : Int)) h28 ?_
        refine lv_iload C.1 C.2.1 dX2_numberAt_32 (lv_at hl 0 rfl) ?_
        refine y_iaddN C (a := f0) (b := (x + y.toNat) / 2) dX2_numberAt_34 ?_
        refine z_readSN C (As := [.ref (ad 14), zN (f0 + ((x + y.toNat) / 2))]) (rest := []) (c_at l Z (hM.row 14 (by decide)) (by decide) (f0 + ((x + y.toNat) / 2)) rfl (by show _ < 16000; omega)) ⟨⟨zw_11_13, zw_1_2⟩, zd_X11_at⟩ (by decide) zw_11_12 ⟨Nat.le_of_ble_eq_true rfl, Nat.le_of_ble_eq_true rfl⟩ ⟨rfl, rfl⟩ rfl hl.1 rfl (Nat.le_of_ble_eq_true rfl) dX2_numberAt_35 ⟨Nat.zero_le _, Nat.zero_le _⟩ hS (fun locs hS => ?_)
        refine z_re (y := zI (g ((x + y.toNat) / 2))) (hg _ (by omega)) ?_
        refine lv_istore (lv' := [(6, zV (g ((x + y.toNat) / 2))), (5, zN ((x + y.toNat) / 2)), (4, zV y), (3, zN x), (0, .ref (ad 0)), (1, .ref (ad (16 + bm))), (2, zV t)]) C.1 C.2.1 dX2_numberAt_38 hl (by decide) rfl (fun ls hl => ?_)
        have hq := hr ((x + y.toNat) / 2) (by omega)
        refine lv_iload C.1 C.2.1 dX2_numberAt_40 (lv_at hl 0 rfl) ?_
        refine lv_iload_n C.1 C.2.1 dX2_numberAt_42 rfl (lv_at hl 6 rfl) ?_
        refine y_icmp_ne (tgt := 49) C (a := g ((x + y.toNat) / 2)) (b := t) dX2_numberAt_43 (by decide) (by omega) (fun h43 => ?_) (fun h43 => ?_)
        · refine lv_iload C.1 C.2.1 dX2_numberAt_49 (lv_at hl 0 rfl) ?_
          refine lv_iload_n C.1 C.2.1 dX2_numberAt_51 rfl (lv_at hl 6 rfl) ?_
          refine y_icmp_ge (tgt := 63) C (a := g ((x + y.toNat) / 2)) (b := t) dX2_numberAt_52 (by decide) (by omega) (fun h52 => ?_) (fun h52 => ?_)
          · refine lv_iload C.1 C.2.1 dX2_numberAt_63 (lv_at hl 1 rfl) ?_
            refine lv_iconst (v := zI 1) C.1 C.2.1 dX2_numberAt_65 (by decide) ?_
            refine y_isub C (a := (((x + y.toNat) / 2 : Nat) : Int)) (b := 1) dX2_numberAt_66 ?_
            refine lv_istore (lv' := [(4, zV ((((x + y.toNat) / 2 : Nat) : Int) - 1)), (6, zV (g ((x + y.toNat) / 2))), (5, zN ((x + y.toNat) / 2)), (3, zN x), (0, .ref (ad 0)), (1, .ref (ad (16 + bm))), (2, zV t)]) C.1 C.2.1 dX2_numberAt_67 hl (by decide) rfl (fun ls hl => ?_)
            refine lv_goto (tgt := 10) C.1 C.2.1 dX2_numberAt_69 (by decide) ?_
            exact ih_loop (x) ((((x + y.toNat) / 2 : Nat) : Int) - 1) ls _ hS (by omega) (by omega) (by omega) (fun j hj e => by have a1 := hi j hj e; have a2 := mono_lt hm (a := j) (b := (x + y.toNat) / 2) hj (by omega); omega) (lv_sub hl [0, 3, 4, 5, 6] rfl)
          · refine lv_iload C.1 C.2.1 dX2_numberAt_55 (lv_at hl 1 rfl) ?_
            refine lv_iconst (v := zI 1) C.1 C.2.1 dX2_numberAt_57 (by decide) ?_
            refine y_iaddN C (a := (x + y.toNat) / 2) (b := 1) dX2_numberAt_58 ?_
            refine lv_istore_n (lv' := [(3, zN (((x + y.toNat) / 2) + 1)), (6, zV (g ((x + y.toNat) / 2))), (5, zN ((x + y.toNat) / 2)), (4, zV y), (0, .ref (ad 0)), (1, .ref (ad (16 + bm))), (2, zV t)]) C.1 C.2.1 dX2_numberAt_59 rfl hl (by decide) rfl (fun ls hl => ?_)
            refine lv_goto (tgt := 69) C.1 C.2.1 dX2_numberAt_60 (by decide) ?_
            refine lv_goto (tgt := 10) C.1 C.2.1 dX2_numberAt_69 (by decide) ?_
            exact ih_loop (((x + y.toNat) / 2) + 1) (y) ls _ hS (by omega) (by omega) (by omega) (fun j hj e => by have a1 := hi j hj e; have a2 := mono_lt hm (a := (x + y.toNat) / 2) (b := j) (by omega) (by omega); omega) (lv_sub hl [3, 0, 4, 5, 6] rfl)
        · refine lv_iload C.1 C.2.1 dX2_numberAt_46 (lv_at hl 1 rfl) ?_
          exact hret _ _ _ _ (zI (((x + y.toNat) / 2 : Nat) : Int)) hS ⟨congrArg (fun x : Int => some (zV x)) (by rw [show t = g ((x + y.toNat) / 2) from by omega]; exact (nbG_at (by omega) hm).symm), rfl⟩ rfl dX2_numberAt_48
  exact loop (N + 2) 0 ((N : Int) - 1) ls _ hS (by omega) (by omega) (by omega) (fun j hj _ => by omega) hl

set_option maxHeartbeats 4000000 in
set_option maxRecDepth 20000 in
theorem c_X7_is (l : Launch) (Z : zT) {H : Heap} {ad : Nat → Nat} {τ : mS} {X : List (Nat × va_E)} (hM : isC Z H ad τ X) {F : Nat → Nat} {n : Nat} (hB : cSrc τ F n) {tb : Nat → Nat} {pc : Nat} (hP : cPl τ F tb pc) (sn : Nat) (hs : sn < 256) {t : Int} (k : Nat) (ht : t = (k : Int)) (hk : k < 65536) : zP l Z yX7_is cX7_is 3 (some .boolean) (rmk 2) [.ref (ad 3), zN sn, zV t] H (zV (bI (isE F tb pc k sn))) := by
  subst ht
  have hp1 := hP.2.1
  have hp2 := tg_lt hB.1 tb k
  refine zM.introI (own := RX7) ⟨by decide, rfl⟩ (Nat.le_of_ble_eq_true rfl) ?_
  intro p e s m args below meth c Q ls hH C hl hret
  have hS : va_S (fun _ => False) s.heap H [] := by rw [hH]; exact va_S.rf
  have hl : lv_has ls 3 [(0, .ref (ad 3)), (1, zN sn), (2, zN k)] := hl
  refine lv_iload_n C.1 C.2.1 dX7_is_0 rfl (lv_at hl 2 rfl) ?_
  refine y_if_le (tgt := 28) C (a := ((k : Nat) : Int)) dX7_is_1 (by decide) (by omega) (fun h1 => ?_) (fun h1 => ?_)
  · refine lv_iconst (v := zI 0) C.1 C.2.1 dX7_is_28 (by decide) ?_
    exact hret _ _ _ _ (zI 0) hS ⟨congrArg (fun x : Int => some (zV x)) (bI_0 (decide_eq_false (by omega))), rfl⟩ rfl dX7_is_29
  · refine lv_iload_n C.1 C.2.1 dX7_is_4 rfl (lv_at hl 2 rfl) ?_
    refine lv_aload_n C.1 C.2.1 dX7_is_5 rfl (lv_at hl 0 rfl) ?_
    refine z_get C (v := .int (τ.1 1)) hM.pol rfl bi_wsX70 8 (by decide) zw_4_9 rfl rfl dX7_is_6 ?_
    refine z_re (y := zI ((pc : Nat) : Int)) hP.1 ?_
    refine y_icmp_ge (tgt := 28) C (a := ((k : Nat) : Int)) (b := ((pc : Nat) : Int)) dX7_is_9 (by decide) (by omega) (fun h9 => ?_) (fun h9 => ?_)
    · refine lv_iconst (v := zI 0) C.1 C.2.1 dX7_is_28 (by decide) ?_
      exact hret _ _ _ _ (zI 0) hS ⟨congrArg (fun x : Int => some (zV x)) (bI_0 (decide_eq_false (by omega))), rfl⟩ rfl dX7_is_29
    · refine lv_aload_n C.1 C.2.1 dX7_is_12 rfl (lv_at hl 0 rfl) ?_
      refine z_get C (v := .ref (ad 5)) hM.pol rfl bi_wsX70 2 (by decide) zw_4_3 rfl rfl dX7_is_13 ?_
      refine lv_iload_n C.1 C.2.1 dX7_is_16 rfl (lv_at hl 2 rfl) ?_
      refine z_readSN C (As := [.ref (ad 5), zN k]) (rest := []) (c_at l Z (hM.row 5 (by decide)) (by decide) k rfl (by show _ < 500; omega)) ⟨⟨zw_11_13, zw_1_2⟩, zd_X11_at⟩ (by decide) zw_11_12 ⟨Nat.le_of_ble_eq_true rfl, Nat.le_of_ble_eq_true rfl⟩ ⟨rfl, rfl⟩ rfl hl.1 rfl (Nat.le_of_ble_eq_true rfl) dX7_is_17 ⟨Nat.zero_le _, Nat.zero_le _⟩ hS (fun locs hS => ?_)
      refine z_re (y := zI ((tg F tb k : Nat) : Int)) ((hP.2.2 k (by omega)).2.1) ?_
      refine lv_iload_n C.1 C.2.1 dX7_is_20 rfl (lv_at hl 1 rfl) ?_
      refine y_icmp_ne (tgt := 28) C (a := ((tg F tb k : Nat) : Int)) (b := ((sn : Nat) : Int)) dX7_is_21 (by decide) (by omega) (fun h21 => ?_) (fun h21 => ?_)
      · refine lv_iconst (v := zI 0) C.1 C.2.1 dX7_is_28 (by decide) ?_
        exact hret _ _ _ _ (zI 0) hS ⟨congrArg (fun x : Int => some (zV x)) (bI_0 (decide_eq_false (by omega))), rfl⟩ rfl dX7_is_29
      · refine lv_iconst (v := zI 1) C.1 C.2.1 dX7_is_24 (by decide) ?_
        refine lv_goto (tgt := 29) C.1 C.2.1 dX7_is_25 (by decide) ?_
        exact hret _ _ _ _ (zI 1) hS ⟨congrArg (fun x : Int => some (zV x)) (bI_1 (decide_eq_true (by omega))), rfl⟩ rfl dX7_is_29

set_option maxHeartbeats 4000000 in
set_option maxRecDepth 20000 in
theorem c_X7_part (l : Launch) (Z : zT) {H : Heap} {ad : Nat → Nat} {τ : mS} {X : List (Nat × va_E)} (hM : isC Z H ad τ X) {F : Nat → Nat} {n : Nat} (hB : cSrc τ F n) {tb : Nat → Nat} {pc : Nat} (hP : cPl τ F tb pc) (w : Nat) (hw : w < 2) {t : Int} (k : Nat) (ht : t = (k : Int)) (hk : k < pc) (hin : tb k + 1 + 2 * w + 2 ≤ n) : zP l Z yX7_part cX7_part 3 (some .int) (rmk 2) [.ref (ad 3), zV t, zN w] H (zN (U2 F (tb k + 1 + 2 * w))) := by
  subst ht
  have hp1 := hP.2.1
  have hn := hB.2.2.2
  refine zM.introI (own := RX7) ⟨by decide, rfl⟩ (Nat.le_of_ble_eq_true rfl) ?_
  intro p e s m args below meth c Q ls hH C hl hret
  have hS : va_S (fun _ => False) s.heap H [] := by rw [hH]; exact va_S.rf
  have hl : lv_has ls 3 [(0, .ref (ad 3)), (1, zN k), (2, zN w)] := hl
  refine lv_aload_n C.1 C.2.1 dX7_part_0 rfl (lv_at hl 0 rfl) ?_
  refine z_get C (v := .ref (ad 1)) hM.pol rfl bi_wsX70 0 (by decide) zw_4_1 rfl rfl dX7_part_1 ?_
  refine lv_aload_n C.1 C.2.1 dX7_part_4 rfl (lv_at hl 0 rfl) ?_
  refine z_get C (v := .ref (ad 4)) hM.pol rfl bi_wsX70 1 (by decide) zw_4_2 rfl rfl dX7_part_5 ?_
  refine lv_iload_n C.1 C.2.1 dX7_part_8 rfl (lv_at hl 1 rfl) ?_
  refine z_readSN C (As := [.ref (ad 4), zN k]) (rest := [.ref (ad 1)]) (c_at l Z (hM.row 4 (by decide)) (by decide) k rfl (by show _ < 500; omega)) ⟨⟨zw_11_13, zw_1_2⟩, zd_X11_at⟩ (by decide) zw_11_12 ⟨Nat.le_of_ble_eq_true rfl, Nat.le_of_ble_eq_true rfl⟩ ⟨rfl, rfl⟩ rfl hl.1 rfl (Nat.le_of_ble_eq_true rfl) dX7_part_9 ⟨Nat.zero_le _, Nat.zero_le _⟩ hS (fun locs hS => ?_)
  refine z_re (y := zI ((tb k : Nat) : Int)) ((hP.2.2 k (by omega)).1) ?_
  refine lv_iconst (v := zI 1) C.1 C.2.1 dX7_part_12 (by decide) ?_
  refine y_iaddN C (a := tb k) (b := 1) dX7_part_13 ?_
  refine lv_iconst (v := zI 2) C.1 C.2.1 dX7_part_14 (by decide) ?_
  refine lv_iload_n C.1 C.2.1 dX7_part_15 rfl (lv_at hl 2 rfl) ?_
  refine y_imulN C (a := 2) (b := w) dX7_part_16 ?_
  refine y_iaddN C (a := (tb k) + 1) (b := 2 * w) dX7_part_17 ?_
  refine z_readV C (As := [zN (((tb k) + 1) + (2 * w))]) (rest := []) (c_u2 l Z hM hB (((tb k) + 1) + (2 * w)) rfl (by omega)) hM.byt rfl ⟨⟨zw_10_5, zw_2_15, zw_10_18⟩, zd_X1_u2⟩ zw_10_3 zw_10_4 ⟨Nat.le_of_ble_eq_true rfl, Nat.le_of_ble_eq_true rfl⟩ ⟨rfl, rfl⟩ rfl hl.1 rfl (Nat.le_of_ble_eq_true rfl) dX7_part_18 ⟨Nat.zero_le _, Nat.zero_le _⟩ hS (fun locs hS => ?_)
  have := U2_lt hB.1 (((tb k) + 1) + (2 * w))
  exact hret _ _ _ _ (zI ((U2 F (((tb k) + 1) + (2 * w)) : Nat) : Int)) hS ⟨rfl, rfl⟩ rfl dX7_part_21

set_option maxHeartbeats 4000000 in
set_option maxRecDepth 20000 in
theorem c_X7_same (l : Launch) (Z : zT) {H : Heap} {ad : Nat → Nat} {τ : mS} {X : List (Nat × va_E)} (hM : isC Z H ad τ X) {F : Nat → Nat} {n : Nat} (hB : cSrc τ F n) {tb : Nat → Nat} {pc : Nat} (hP : cPl τ F tb pc) {a b : Nat} (ha : a < pc) (hb : b < pc) (na : pNm F n tb a) (nb : pNm F n tb b) : zP l Z yX7_same cX7_same 5 (some .boolean) (rmk 2) [.ref (ad 3), zN a, zN b] H (zV (bI (sameK F tb a b))) := by
  have hp1 := hP.2.1
  have hn := hB.2.2.2
  obtain ⟨a1, a2, a3, a4, a5⟩ := id na
  obtain ⟨b1, b2, b3, b4, b5⟩ := id nb
  refine zM.introI (own := RX7) ⟨by decide, rfl⟩ (Nat.le_of_ble_eq_true rfl) ?_
  intro p e s m args below meth c Q ls hH C hl hret
  have hS : va_S (fun _ => False) s.heap H [] := by rw [hH]; exact va_S.rf
  have hl : lv_has ls 5 [(0, .ref (ad 3)), (1, zN a), (2, zN b)] := hl
  refine lv_aload_n C.1 C.2.1 dX7_same_0 rfl (lv_at hl 0 rfl) ?_
  refine z_get C (v := .ref (ad 6)) hM.pol rfl bi_wsX70 3 (by decide) zw_4_4 rfl rfl dX7_same_1 ?_
  refine lv_iload_n C.1 C.2.1 dX7_same_4 rfl (lv_at hl 1 rfl) ?_
  refine z_readSN C (As := [.ref (ad 6), zN a]) (rest := []) (c_at l Z (hM.row 6 (by decide)) (by decide) a rfl (by show _ < 500; omega)) ⟨⟨zw_11_13, zw_1_2⟩, zd_X11_at⟩ (by decide) zw_11_12 ⟨Nat.le_of_ble_eq_true rfl, Nat.le_of_ble_eq_true rfl⟩ ⟨rfl, rfl⟩ rfl hl.1 rfl (Nat.le_of_ble_eq_true rfl) dX7_same_5 ⟨Nat.zero_le _, Nat.zero_le _⟩ hS (fun locs hS => ?_)
  refine z_re (y := zI ((lnE F tb a : Nat) : Int)) ((hP.2.2 a (by omega)).2.2) ?_
  refine z_re (y := zI ((nL F tb a : Nat) : Int)) (zI_c (congrArg Nat.cast na.ln)) ?_
  refine lv_istore_n (lv' := [(3, zN (nL F tb a)), (0, .ref (ad 3)), (1, zN a), (2, zN b)]) C.1 C.2.1 dX7_same_8 rfl hl (by decide) rfl (fun ls hl => ?_)
  refine lv_iload_n C.1 C.2.1 dX7_same_9 rfl (lv_at hl 0 rfl) ?_
  refine lv_iconst (v := zI 1) C.1 C.2.1 dX7_same_10 (by decide) ?_
  refine y_icmp_lt (tgt := 26) C (a := ((nL F tb a : Nat) : Int)) (b := 1) dX7_same_11 (by decide) (by omega) (fun h11 => ?_) (fun h11 => ?_)
  · refine lv_iconst (v := zI 0) C.1 C.2.1 dX7_same_26 (by decide) ?_
    exact hret _ _ _ _ (zI 0) hS ⟨congrArg (fun x : Int => some (zV x)) (bI_0 (decide_eq_false (fun z => by have := z.1; omega))), rfl⟩ rfl dX7_same_27
  · refine lv_iload_n C.1 C.2.1 dX7_same_14 rfl (lv_at hl 0 rfl) ?_
    refine lv_aload_n C.1 C.2.1 dX7_same_15 rfl (lv_at hl 1 rfl) ?_
    refine z_get C (v := .ref (ad 6)) hM.pol rfl bi_wsX70 3 (by decide) zw_4_4 rfl rfl dX7_same_16 ?_
    refine lv_iload_n C.1 C.2.1 dX7_same_19 rfl (lv_at hl 3 rfl) ?_
    refine z_readSN C (As := [.ref (ad 6), zN b]) (rest := [zN (nL F tb a)]) (c_at l Z (hM.row 6 (by decide)) (by decide) b rfl (by show _ < 500; omega)) ⟨⟨zw_11_13, zw_1_2⟩, zd_X11_at⟩ (by decide) zw_11_12 ⟨Nat.le_of_ble_eq_true rfl, Nat.le_of_ble_eq_true rfl⟩ ⟨rfl, rfl⟩ rfl hl.1 rfl (Nat.le_of_ble_eq_true rfl) dX7_same_20 ⟨Nat.zero_le _, Nat.zero_le _⟩ hS (fun locs hS => ?_)
    refine z_re (y := zI ((lnE F tb b : Nat) : Int)) ((hP.2.2 b (by omega)).2.2) ?_
    refine z_re (y := zI ((nL F tb b : Nat) : Int)) (zI_c (congrArg Nat.cast nb.ln)) ?_
    refine y_icmp_eq (tgt := 28) C (a := ((nL F tb a : Nat) : Int)) (b := ((nL F tb b : Nat) : Int)) dX7_same_23 (by decide) (by omega) (fun h23 => ?_) (fun h23 => ?_)
    · refine lv_iconst (v := zI 0) C.1 C.2.1 dX7_same_28 (by decide) ?_
      refine lv_istore (lv' := [(4, zN 0), (3, zN (nL F tb a)), (0, .ref (ad 3)), (1, zN a), (2, zN b)]) C.1 C.2.1 dX7_same_29 hl (by decide) rfl (fun ls hl => ?_)
      have loop : ∀ (fu : Nat) (i : Nat) (ls : Array Slot) (locs : List Loc), va_S (fun _ => False) s.heap H locs → (i ≤ nL F tb a) → (nL F tb a < fu + i) → (∀ j, j < i → F (nP tb a + j) = F (nP tb b + j)) → lv_has ls 5 [(4, zN i), (3, zN (nL F tb a)), (0, .ref (ad 3)), (1, zN a), (2, zN b)] → W p l e (rmk 2) s m args below meth c H locs 0 0 Q (F0 m 31 ls []) := by
        intro fu
        induction fu with
        | zero =>
          intro i ls locs hS hi hf hI hl
          omega
        | succ fu ih_loop =>
          intro i ls locs hS hi hf hI hl
          refine lv_iload C.1 C.2.1 dX7_same_31 (lv_at hl 0 rfl) ?_
          refine lv_iload_n C.1 C.2.1 dX7_same_33 rfl (lv_at hl 1 rfl) ?_
          refine y_icmp_ge (tgt := 88) C (a := ((i : Nat) : Int)) (b := ((nL F tb a : Nat) : Int)) dX7_same_34 (by decide) (by omega) (fun h34 => ?_) (fun h34 => ?_)
          · refine lv_iconst (v := zI 1) C.1 C.2.1 dX7_same_88 (by decide) ?_
            exact hret _ _ _ _ (zI 1) hS ⟨congrArg (fun x : Int => some (zV x)) (bI_1 (decide_eq_true ⟨by omega, fun j hj => hI j (by omega)⟩)), rfl⟩ rfl dX7_same_89
          · refine lv_aload_n C.1 C.2.1 dX7_same_37 rfl (lv_at hl 2 rfl) ?_
            refine z_get C (v := .ref (ad 1)) hM.pol rfl bi_wsX70 0 (by decide) zw_4_1 rfl rfl dX7_same_38 ?_
            refine lv_aload_n C.1 C.2.1 dX7_same_41 rfl (lv_at hl 2 rfl) ?_
            refine z_get C (v := .ref (ad 4)) hM.pol rfl bi_wsX70 1 (by decide) zw_4_2 rfl rfl dX7_same_42 ?_
            refine lv_iload_n C.1 C.2.1 dX7_same_45 rfl (lv_at hl 3 rfl) ?_
            refine z_readSN C (As := [.ref (ad 4), zN a]) (rest := [.ref (ad 1)]) (c_at l Z (hM.row 4 (by decide)) (by decide) a rfl (by show _ < 500; omega)) ⟨⟨zw_11_13, zw_1_2⟩, zd_X11_at⟩ (by decide) zw_11_12 ⟨Nat.le_of_ble_eq_true rfl, Nat.le_of_ble_eq_true rfl⟩ ⟨rfl, rfl⟩ rfl hl.1 rfl (Nat.le_of_ble_eq_true rfl) dX7_same_46 ⟨Nat.zero_le _, Nat.zero_le _⟩ hS (fun locs hS => ?_)
            refine z_re (y := zI ((tb a : Nat) : Int)) ((hP.2.2 a (by omega)).1) ?_
            refine lv_iconst (v := zI 3) C.1 C.2.1 dX7_same_49 (by decide) ?_
            refine y_iaddN C (a := tb a) (b := 3) dX7_same_50 ?_
            refine lv_iload C.1 C.2.1 dX7_same_51 (lv_at hl 0 rfl) ?_
            refine y_iaddN C (a := (tb a) + 3) (b := i) dX7_same_53 ?_
            refine z_readV C (As := [zN (((tb a) + 3) + i)]) (rest := []) (c_u1 l Z hM hB (((tb a) + 3) + i) rfl (by omega)) hM.byt rfl ⟨⟨zw_9_12, zw_2_15, zw_10_17⟩, zd_X1_u1⟩ zw_9_10 zw_9_11 ⟨Nat.le_of_ble_eq_true rfl, Nat.le_of_ble_eq_true rfl⟩ ⟨rfl, rfl⟩ rfl hl.1 rfl (Nat.le_of_ble_eq_true rfl) dX7_same_54 ⟨Nat.zero_le _, Nat.zero_le _⟩ hS (fun locs hS => ?_)
            have := hB.1 (((tb a) + 3) + i)
            refine lv_aload_n C.1 C.2.1 dX7_same_57 rfl (lv_at hl 2 rfl) ?_
            refine z_get C (v := .ref (ad 1)) hM.pol rfl bi_wsX70 0 (by decide) zw_4_1 rfl rfl dX7_same_58 ?_
            refine lv_aload_n C.1 C.2.1 dX7_same_61 rfl (lv_at hl 2 rfl) ?_
            refine z_get C (v := .ref (ad 4)) hM.pol rfl bi_wsX70 1 (by decide) zw_4_2 rfl rfl dX7_same_62 ?_
            refine lv_iload_n C.1 C.2.1 dX7_same_65 rfl (lv_at hl 4 rfl) ?_
            refine z_readSN C (As := [.ref (ad 4), zN b]) (rest := [.ref (ad 1), zN (F (((tb a) + 3) + i))]) (c_at l Z (hM.row 4 (by decide)) (by decide) b rfl (by show _ < 500; omega)) ⟨⟨zw_11_13, zw_1_2⟩, zd_X11_at⟩ (by decide) zw_11_12 ⟨Nat.le_of_ble_eq_true rfl, Nat.le_of_ble_eq_true rfl⟩ ⟨rfl, rfl⟩ rfl hl.1 rfl (Nat.le_of_ble_eq_true rfl) dX7_same_66 ⟨Nat.zero_le _, Nat.zero_le _⟩ hS (fun locs hS => ?_)
            refine z_re (y := zI ((tb b : Nat) : Int)) ((hP.2.2 b (by omega)).1) ?_
            refine lv_iconst (v := zI 3) C.1 C.2.1 dX7_same_69 (by decide) ?_
            refine y_iaddN C (a := tb b) (b := 3) dX7_same_70 ?_
            refine lv_iload C.1 C.2.1 dX7_same_71 (lv_at hl 0 rfl) ?_
            refine y_iaddN C (a := (tb b) + 3) (b := i) dX7_same_73 ?_
            refine z_readV C (As := [zN (((tb b) + 3) + i)]) (rest := [zN (F (((tb a) + 3) + i))]) (c_u1 l Z hM hB (((tb b) + 3) + i) rfl (by omega)) hM.byt rfl ⟨⟨zw_9_12, zw_2_15, zw_10_17⟩, zd_X1_u1⟩ zw_9_10 zw_9_11 ⟨Nat.le_of_ble_eq_true rfl, Nat.le_of_ble_eq_true rfl⟩ ⟨rfl, rfl⟩ rfl hl.1 rfl (Nat.le_of_ble_eq_true rfl) dX7_same_74 ⟨Nat.zero_le _, Nat.zero_le _⟩ hS (fun locs hS => ?_)
            have := hB.1 (((tb b) + 3) + i)
            refine y_icmp_eq (tgt := 82) C (a := ((F (((tb a) + 3) + i) : Nat) : Int)) (b := ((F (((tb b) + 3) + i) : Nat) : Int)) dX7_same_77 (by decide) (by omega) (fun h77 => ?_) (fun h77 => ?_)
            · refine lv_iinc (v := zI ((i + 1 : Nat) : Int)) (lv' := [(4, zN (i + 1)), (3, zN (nL F tb a)), (0, .ref (ad 3)), (1, zN a), (2, zN b)]) C.1 C.2.1 dX7_same_82 hl (k := 0) rfl (zI_add _ _) (by decide) rfl (fun ls hl => ?_)
              refine lv_goto (tgt := 31) C.1 C.2.1 dX7_same_85 (by decide) ?_
              exact ih_loop (i + 1) ls _ hS (by omega) (by omega) (fun j hj => by rcases Nat.lt_succ_iff_lt_or_eq.mp hj with h | h; (exact hI j h); (subst h; show F (tb a + 3 + j) = F (tb b + 3 + j); omega)) hl
            · refine lv_iconst (v := zI 0) C.1 C.2.1 dX7_same_80 (by decide) ?_
              exact hret _ _ _ _ (zI 0) hS ⟨congrArg (fun x : Int => some (zV x)) (bI_0 (decide_eq_false (fun z => by have z2 : F (tb a + 3 + i) = F (tb b + 3 + i) := z.2 i (by omega); omega))), rfl⟩ rfl dX7_same_81
      exact loop (nL F tb a + 1) 0 ls _ hS (by omega) (by omega) (fun j hj => by omega) hl
    · refine lv_iconst (v := zI 0) C.1 C.2.1 dX7_same_26 (by decide) ?_
      exact hret _ _ _ _ (zI 0) hS ⟨congrArg (fun x : Int => some (zV x)) (bI_0 (decide_eq_false (fun z => by have := z.1; omega))), rfl⟩ rfl dX7_same_27

set_option maxHeartbeats 4000000 in
set_option maxRecDepth 20000 in
theorem c_X7_says (l : Launch) (Z : zT) {H : Heap} {ad : Nat → Nat} {τ : mS} {X : List (Nat × va_E)} (hM : isC Z H ad τ X) {F : Nat → Nat} {n : Nat} (hB : cSrc τ F n) {tb : Nat → Nat} {pc : Nat} (hP : cPl τ F tb pc) {a w : Nat} (hw : w < 5) (ha : a < pc) (na : pNm F n tb a) : zP l Z yX7_says cX7_says 4 (some .boolean) (rmk 5) [.ref (ad 3), zN a, .ref (Z.2.2.1 w)] H (zV (bI (isTxK F tb a w))) := by
  have hp1 := hP.2.1
  have hn := hB.2.2.2
  obtain ⟨a1, a2, a3, a4, a5⟩ := id na
  have hw1 : zSL.getD w 0 ≤ 11 := (tx_len ⟨w, hw⟩).1
  have hw2 : zSL.getD w 0 = (tx w).length := (tx_len ⟨w, hw⟩).2
  have hw3 : ∀ i, i < zSL.getD w 0 → (tx w).getD i 0 < 128 := fun i hi => (tx_b ⟨w, hw⟩ ⟨i, by omega⟩ hi).2
  refine zM.introI (own := RX7) ⟨by decide, rfl⟩ (Nat.le_of_ble_eq_true rfl) ?_
  intro p e s m args below meth c Q ls hH C hl hret
  have hS : va_S (fun _ => False) s.heap H [] := by rw [hH]; exact va_S.rf
  have hl : lv_has ls 4 [(0, .ref (ad 3)), (1, zN a), (2, .ref (Z.2.2.1 w))] := hl
  refine lv_aload_n C.1 C.2.1 dX7_says_0 rfl (lv_at hl 0 rfl) ?_
  refine z_get C (v := .ref (ad 6)) hM.pol rfl bi_wsX70 3 (by decide) zw_4_4 rfl rfl dX7_says_1 ?_
  refine lv_iload_n C.1 C.2.1 dX7_says_4 rfl (lv_at hl 1 rfl) ?_
  refine z_readSN C (As := [.ref (ad 6), zN a]) (rest := []) (c_at l Z (hM.row 6 (by decide)) (by decide) a rfl (by show _ < 500; omega)) ⟨⟨zw_11_13, zw_1_2⟩, zd_X11_at⟩ (by decide) zw_11_12 ⟨Nat.le_of_ble_eq_true rfl, Nat.le_of_ble_eq_true rfl⟩ ⟨rfl, rfl⟩ rfl hl.1 rfl (Nat.le_of_ble_eq_true rfl) dX7_says_5 ⟨Nat.zero_le _, Nat.zero_le _⟩ hS (fun locs hS => ?_)
  refine z_re (y := zI ((lnE F tb a : Nat) : Int)) ((hP.2.2 a (by omega)).2.2) ?_
  refine z_re (y := zI ((nL F tb a : Nat) : Int)) (zI_c (congrArg Nat.cast na.ln)) ?_
  refine lv_aload_n C.1 C.2.1 dX7_says_8 rfl (lv_at hl 2 rfl) ?_
  refine z_readK C (As := []) (rest := [zN (nL F tb a)]) (c_J0_length_8abf5 l Z hw) hw rfl ⟨⟨zw_17_7, zw_17_6, zw_17_3⟩, zd_J0_length_8abf5⟩ zw_17_4 zw_17_5 ⟨Nat.le_of_ble_eq_true rfl, Nat.le_of_ble_eq_true rfl⟩ ⟨rfl, rfl⟩ rfl hl.1 rfl (Nat.le_of_ble_eq_true rfl) dX7_says_9 ⟨Nat.zero_le _, Nat.zero_le _⟩ hS (fun locs hS => ?_)
  refine y_icmp_eq (tgt := 17) C (a := ((nL F tb a : Nat) : Int)) (b := ((zSL.getD w 0 : Nat) : Int)) dX7_says_12 (by decide) (by omega) (fun h12 => ?_) (fun h12 => ?_)
  · refine lv_iconst (v := zI 0) C.1 C.2.1 dX7_says_17 (by decide) ?_
    refine lv_istore_n (lv' := [(3, zN 0), (0, .ref (ad 3)), (1, zN a), (2, .ref (Z.2.2.1 w))]) C.1 C.2.1 dX7_says_18 rfl hl (by decide) rfl (fun ls hl => ?_)
    have loop : ∀ (fu : Nat) (i : Nat) (ls : Array Slot) (locs : List Loc), va_S (fun _ => False) s.heap H locs → (i ≤ nL F tb a) → (nL F tb a < fu + i) → (∀ j, j < i → F (nP tb a + j) = (tx w).getD j 0) → lv_has ls 4 [(3, zN i), (0, .ref (ad 3)), (1, zN a), (2, .ref (Z.2.2.1 w))] → W p l e (rmk 5) s m args below meth c H locs 0 0 Q (F0 m 19 ls []) := by
      intro fu
      induction fu with
      | zero =>
        intro i ls locs hS hi hf hI hl
        omega
      | succ fu ih_loop =>
        intro i ls locs hS hi hf hI hl
        refine lv_iload_n C.1 C.2.1 dX7_says_19 rfl (lv_at hl 0 rfl) ?_
        refine lv_aload_n C.1 C.2.1 dX7_says_20 rfl (lv_at hl 3 rfl) ?_
        refine z_readK C (As := []) (rest := [zN i]) (c_J0_length_8abf5 l Z hw) hw rfl ⟨⟨zw_17_7, zw_17_6, zw_17_3⟩, zd_J0_length_8abf5⟩ zw_17_4 zw_17_5 ⟨Nat.le_of_ble_eq_true rfl, Nat.le_of_ble_eq_true rfl⟩ ⟨rfl, rfl⟩ rfl hl.1 rfl (Nat.le_of_ble_eq_true rfl) dX7_says_21 ⟨Nat.zero_le _, Nat.zero_le _⟩ hS (fun locs hS => ?_)
        refine y_icmp_ge (tgt := 62) C (a := ((i : Nat) : Int)) (b := ((zSL.getD w 0 : Nat) : Int)) dX7_says_24 (by decide) (by omega) (fun h24 => ?_) (fun h24 => ?_)
        · refine lv_iconst (v := zI 1) C.1 C.2.1 dX7_says_62 (by decide) ?_
          exact hret _ _ _ _ (zI 1) hS ⟨congrArg (fun x : Int => some (zV x)) (bI_1 (decide_eq_true ⟨by omega, fun j hj => hI j (by omega)⟩)), rfl⟩ rfl dX7_says_63
        · have hw4 := hw3 i (by omega)
          refine lv_aload_n C.1 C.2.1 dX7_says_27 rfl (lv_at hl 1 rfl) ?_
          refine z_get C (v := .ref (ad 1)) hM.pol rfl bi_wsX70 0 (by decide) zw_4_1 rfl rfl dX7_says_28 ?_
          refine lv_aload_n C.1 C.2.1 dX7_says_31 rfl (lv_at hl 1 rfl) ?_
          refine z_get C (v := .ref (ad 4)) hM.pol rfl bi_wsX70 1 (by decide) zw_4_2 rfl rfl dX7_says_32 ?_
          refine lv_iload_n C.1 C.2.1 dX7_says_35 rfl (lv_at hl 2 rfl) ?_
          refine z_readSN C (As := [.ref (ad 4), zN a]) (rest := [.ref (ad 1)]) (c_at l Z (hM.row 4 (by decide)) (by decide) a rfl (by show _ < 500; omega)) ⟨⟨zw_11_13, zw_1_2⟩, zd_X11_at⟩ (by decide) zw_11_12 ⟨Nat.le_of_ble_eq_true rfl, Nat.le_of_ble_eq_true rfl⟩ ⟨rfl, rfl⟩ rfl hl.1 rfl (Nat.le_of_ble_eq_true rfl) dX7_says_36 ⟨Nat.zero_le _, Nat.zero_le _⟩ hS (fun locs hS => ?_)
          refine z_re (y := zI ((tb a : Nat) : Int)) ((hP.2.2 a (by omega)).1) ?_
          refine lv_iconst (v := zI 3) C.1 C.2.1 dX7_says_39 (by decide) ?_
          refine y_iaddN C (a := tb a) (b := 3) dX7_says_40 ?_
          refine lv_iload_n C.1 C.2.1 dX7_says_41 rfl (lv_at hl 0 rfl) ?_
          refine y_iaddN C (a := (tb a) + 3) (b := i) dX7_says_42 ?_
          refine z_readV C (As := [zN (((tb a) + 3) + i)]) (rest := []) (c_u1 l Z hM hB (((tb a) + 3) + i) rfl (by omega)) hM.byt rfl ⟨⟨zw_9_12, zw_2_15, zw_10_17⟩, zd_X1_u1⟩ zw_9_10 zw_9_11 ⟨Nat.le_of_ble_eq_true rfl, Nat.le_of_ble_eq_true rfl⟩ ⟨rfl, rfl⟩ rfl hl.1 rfl (Nat.le_of_ble_eq_true rfl) dX7_says_43 ⟨Nat.zero_le _, Nat.zero_le _⟩ hS (fun locs hS => ?_)
          have := hB.1 (((tb a) + 3) + i)
          refine lv_aload_n C.1 C.2.1 dX7_says_46 rfl (lv_at hl 3 rfl) ?_
          refine lv_iload_n C.1 C.2.1 dX7_says_47 rfl (lv_at hl 0 rfl) ?_
          refine z_readK C (As := [zN i]) (rest := [zN (F (((tb a) + 3) + i))]) (c_J0_charAt_5068e l Z hw (k := i) (by omega)) hw rfl ⟨⟨zw_17_18, zw_17_6, zw_17_15⟩, zd_J0_charAt_5068e⟩ zw_17_16 zw_17_17 ⟨Nat.le_of_ble_eq_true rfl, Nat.le_of_ble_eq_true rfl⟩ ⟨rfl, rfl⟩ rfl hl.1 rfl (Nat.le_of_ble_eq_true rfl) dX7_says_48 ⟨Nat.zero_le _, Nat.zero_le _⟩ hS (fun locs hS => ?_)
          refine y_icmp_eq (tgt := 56) C (a := ((F (((tb a) + 3) + i) : Nat) : Int)) (b := (((tx w).getD i 0 : Nat) : Int)) dX7_says_51 (by decide) (by omega) (fun h51 => ?_) (fun h51 => ?_)
          · refine lv_iinc (v := zI ((i + 1 : Nat) : Int)) (lv' := [(3, zN (i + 1)), (0, .ref (ad 3)), (1, zN a), (2, .ref (Z.2.2.1 w))]) C.1 C.2.1 dX7_says_56 hl (k := 0) rfl (zI_add _ _) (by decide) rfl (fun ls hl => ?_)
            refine lv_goto (tgt := 19) C.1 C.2.1 dX7_says_59 (by decide) ?_
            exact ih_loop (i + 1) ls _ hS (by omega) (by omega) (fun j hj => by rcases Nat.lt_succ_iff_lt_or_eq.mp hj with h | h; (exact hI j h); (subst h; show F (tb a + 3 + j) = (tx w).getD j 0; omega)) hl
          · refine lv_iconst (v := zI 0) C.1 C.2.1 dX7_says_54 (by decide) ?_
            exact hret _ _ _ _ (zI 0) hS ⟨congrArg (fun x : Int => some (zV x)) (bI_0 (decide_eq_false (fun z => by have z2 : F (tb a + 3 + i) = (tx w).getD i 0 := z.2 i (by omega); omega))), rfl⟩ rfl dX7_says_55
    exact loop (nL F tb a + 1) 0 ls _ hS (by omega) (by omega) (fun j hj => by omega) hl
  · refine lv_iconst (v := zI 0) C.1 C.2.1 dX7_says_15 (by decide) ?_
    exact hret _ _ _ _ (zI 0) hS ⟨congrArg (fun x : Int => some (zV x)) (bI_0 (decide_eq_false (fun z => by have := z.1; omega))), rfl⟩ rfl dX7_says_16

set_option maxHeartbeats 4000000 in
set_option maxRecDepth 20000 in
theorem c_X9_kindAt (l : Launch) (Z : zT) {H : Heap} {ad : Nat → Nat} {τ : mS} {X : List (Nat × va_E)} (hM : isC Z H ad τ X) {F : Nat → Nat} {n : Nat} (hB : cSrc τ F n) {fp ln : Nat} (hfl : fp + ln ≤ n) {t u : Int} (i : Nat) (ht : t = ((fp + i : Nat) : Int)) (hu : u = ((fp + ln : Nat) : Int)) (hi : i < 65536) : zP l Z yX9_kindAt cX9_kindAt 3 (some .int) (rmk 2) [.ref (ad 1), zV t, zV u] H (zN (kd F fp ln i)) := by
  subst ht
  subst hu
  have hn := hB.2.2.2
  refine zM.introI (own := RX9) ⟨by decide, rfl⟩ (Nat.le_of_ble_eq_true rfl) ?_
  intro p e s m args below meth c Q ls hH C hl hret
  have hS : va_S (fun _ => False) s.heap H [] := by rw [hH]; exact va_S.rf
  have hl : lv_has ls 3 [(0, .ref (ad 1)), (1, zN (fp + i)), (2, zN (fp + ln))] := hl
  refine lv_iload_n C.1 C.2.1 dX9_kindAt_0 rfl (lv_at hl 1 rfl) ?_
  refine lv_iload_n C.1 C.2.1 dX9_kindAt_1 rfl (lv_at hl 2 rfl) ?_
  refine y_icmp_ge (tgt := 17) C (a := ((fp + i : Nat) : Int)) (b := ((fp + ln : Nat) : Int)) dX9_kindAt_2 (by decide) (by omega) (fun h2 => ?_) (fun h2 => ?_)
  · refine lv_iload_n C.1 C.2.1 dX9_kindAt_17 rfl (lv_at hl 1 rfl) ?_
    refine lv_iload_n C.1 C.2.1 dX9_kindAt_18 rfl (lv_at hl 2 rfl) ?_
    refine y_icmp_ge (tgt := 34) C (a := ((fp + i : Nat) : Int)) (b := ((fp + ln : Nat) : Int)) dX9_kindAt_19 (by decide) (by omega) (fun h19 => ?_) (fun h19 => ?_)
    · refine lv_iload_n C.1 C.2.1 dX9_kindAt_34 rfl (lv_at hl 1 rfl) ?_
      refine lv_iconst (v := zI 1) C.1 C.2.1 dX9_kindAt_35 (by decide) ?_
      refine y_iaddN C (a := fp + i) (b := 1) dX9_kindAt_36 ?_
      refine lv_iload_n C.1 C.2.1 dX9_kindAt_37 rfl (lv_at hl 2 rfl) ?_
      refine y_icmp_ge (tgt := 67) C (a := (((fp + i) + 1 : Nat) : Int)) (b := ((fp + ln : Nat) : Int)) dX9_kindAt_38 (by decide) (by omega) (fun h38 => ?_) (fun h38 => ?_)
      · refine lv_iconst (v := zI 0) C.1 C.2.1 dX9_kindAt_67 (by decide) ?_
        exact hret _ _ _ _ (zI 0) hS ⟨congrArg (fun x : Int => some (zV x)) (by unfold kd nmC; (repeat' split) <;> omega), rfl⟩ rfl dX9_kindAt_68
      · refine lv_aload_n C.1 C.2.1 dX9_kindAt_41 rfl (lv_at hl 0 rfl) ?_
        refine lv_iload_n C.1 C.2.1 dX9_kindAt_42 rfl (lv_at hl 1 rfl) ?_
        refine z_readV C (As := [zN (fp + i)]) (rest := []) (c_u1 l Z hM hB (fp + i) rfl (by omega)) hM.byt rfl ⟨⟨zw_9_12, zw_2_15, zw_12_6⟩, zd_X1_u1⟩ zw_9_10 zw_9_11 ⟨Nat.le_of_ble_eq_true rfl, Nat.le_of_ble_eq_true rfl⟩ ⟨rfl, rfl⟩ rfl hl.1 rfl (Nat.le_of_ble_eq_true rfl) dX9_kindAt_43 ⟨Nat.zero_le _, Nat.zero_le _⟩ hS (fun locs hS => ?_)
        have := hB.1 (fp + i)
        refine lv_bipush (v := zI 91) C.1 C.2.1 dX9_kindAt_46 (by decide) ?_
        refine y_icmp_ne (tgt := 67) C (a := ((F (fp + i) : Nat) : Int)) (b := 91) dX9_kindAt_48 (by decide) (by omega) (fun h48 => ?_) (fun h48 => ?_)
        · refine lv_iconst (v := zI 0) C.1 C.2.1 dX9_kindAt_67 (by decide) ?_
          exact hret _ _ _ _ (zI 0) hS ⟨congrArg (fun x : Int => some (zV x)) (by unfold kd nmC; (repeat' split) <;> omega), rfl⟩ rfl dX9_kindAt_68
        · refine lv_aload_n C.1 C.2.1 dX9_kindAt_51 rfl (lv_at hl 0 rfl) ?_
          refine lv_iload_n C.1 C.2.1 dX9_kindAt_52 rfl (lv_at hl 1 rfl) ?_
          refine lv_iconst (v := zI 1) C.1 C.2.1 dX9_kindAt_53 (by decide) ?_
          refine y_iaddN C (a := fp + i) (b := 1) dX9_kindAt_54 ?_
          refine z_readV C (As := [zN ((fp + i) + 1)]) (rest := []) (c_u1 l Z hM hB (fp + (i + 1)) (by omega) (by omega)) hM.byt rfl ⟨⟨zw_9_12, zw_2_15, zw_12_6⟩, zd_X1_u1⟩ zw_9_10 zw_9_11 ⟨Nat.le_of_ble_eq_true rfl, Nat.le_of_ble_eq_true rfl⟩ ⟨rfl, rfl⟩ rfl hl.1 rfl (Nat.le_of_ble_eq_true rfl) dX9_kindAt_55 ⟨Nat.zero_le _, Nat.zero_le _⟩ hS (fun locs hS => ?_)
          have := hB.1 (fp + (i + 1))
          refine lv_bipush (v := zI 73) C.1 C.2.1 dX9_kindAt_58 (by decide) ?_
          refine y_icmp_ne (tgt := 67) C (a := ((F (fp + (i + 1)) : Nat) : Int)) (b := 73) dX9_kindAt_60 (by decide) (by omega) (fun h60 => ?_) (fun h60 => ?_)
          · refine lv_iconst (v := zI 0) C.1 C.2.1 dX9_kindAt_67 (by decide) ?_
            exact hret _ _ _ _ (zI 0) hS ⟨congrArg (fun x : Int => some (zV x)) (by unfold kd nmC; (repeat' split) <;> omega), rfl⟩ rfl dX9_kindAt_68
          · refine lv_iconst (v := zI 4) C.1 C.2.1 dX9_kindAt_63 (by decide) ?_
            refine lv_goto (tgt := 68) C.1 C.2.1 dX9_kindAt_64 (by decide) ?_
            exact hret _ _ _ _ (zI 4) hS ⟨congrArg (fun x : Int => some (zV x)) (by unfold kd nmC; (repeat' split) <;> omega), rfl⟩ rfl dX9_kindAt_68
    · refine lv_aload_n C.1 C.2.1 dX9_kindAt_22 rfl (lv_at hl 0 rfl) ?_
      refine lv_iload_n C.1 C.2.1 dX9_kindAt_23 rfl (lv_at hl 1 rfl) ?_
      refine z_readV C (As := [zN (fp + i)]) (rest := []) (c_u1 l Z hM hB (fp + i) rfl (by omega)) hM.byt rfl ⟨⟨zw_9_12, zw_2_15, zw_12_6⟩, zd_X1_u1⟩ zw_9_10 zw_9_11 ⟨Nat.le_of_ble_eq_true rfl, Nat.le_of_ble_eq_true rfl⟩ ⟨rfl, rfl⟩ rfl hl.1 rfl (Nat.le_of_ble_eq_true rfl) dX9_kindAt_24 ⟨Nat.zero_le _, Nat.zero_le _⟩ hS (fun locs hS => ?_)
      have := hB.1 (fp + i)
      refine lv_bipush (v := zI 74) C.1 C.2.1 dX9_kindAt_27 (by decide) ?_
      refine y_icmp_ne (tgt := 34) C (a := ((F (fp + i) : Nat) : Int)) (b := 74) dX9_kindAt_29 (by decide) (by omega) (fun h29 => ?_) (fun h29 => ?_)
      · refine lv_iload_n C.1 C.2.1 dX9_kindAt_34 rfl (lv_at hl 1 rfl) ?_
        refine lv_iconst (v := zI 1) C.1 C.2.1 dX9_kindAt_35 (by decide) ?_
        refine y_iaddN C (a := fp + i) (b := 1) dX9_kindAt_36 ?_
        refine lv_iload_n C.1 C.2.1 dX9_kindAt_37 rfl (lv_at hl 2 rfl) ?_
        refine y_icmp_ge (tgt := 67) C (a := (((fp + i) + 1 : Nat) : Int)) (b := ((fp + ln : Nat) : Int)) dX9_kindAt_38 (by decide) (by omega) (fun h38 => ?_) (fun h38 => ?_)
        · refine lv_iconst (v := zI 0) C.1 C.2.1 dX9_kindAt_67 (by decide) ?_
          exact hret _ _ _ _ (zI 0) hS ⟨congrArg (fun x : Int => some (zV x)) (by unfold kd nmC; (repeat' split) <;> omega), rfl⟩ rfl dX9_kindAt_68
        · refine lv_aload_n C.1 C.2.1 dX9_kindAt_41 rfl (lv_at hl 0 rfl) ?_
          refine lv_iload_n C.1 C.2.1 dX9_kindAt_42 rfl (lv_at hl 1 rfl) ?_
          refine z_readV C (As := [zN (fp + i)]) (rest := []) (c_u1 l Z hM hB (fp + i) rfl (by omega)) hM.byt rfl ⟨⟨zw_9_12, zw_2_15, zw_12_6⟩, zd_X1_u1⟩ zw_9_10 zw_9_11 ⟨Nat.le_of_ble_eq_true rfl, Nat.le_of_ble_eq_true rfl⟩ ⟨rfl, rfl⟩ rfl hl.1 rfl (Nat.le_of_ble_eq_true rfl) dX9_kindAt_43 ⟨Nat.zero_le _, Nat.zero_le _⟩ hS (fun locs hS => ?_)
          have := hB.1 (fp + i)
          refine lv_bipush (v := zI 91) C.1 C.2.1 dX9_kindAt_46 (by decide) ?_
          refine y_icmp_ne (tgt := 67) C (a := ((F (fp + i) : Nat) : Int)) (b := 91) dX9_kindAt_48 (by decide) (by omega) (fun h48 => ?_) (fun h48 => ?_)
          · refine lv_iconst (v := zI 0) C.1 C.2.1 dX9_kindAt_67 (by decide) ?_
            exact hret _ _ _ _ (zI 0) hS ⟨congrArg (fun x : Int => some (zV x)) (by unfold kd nmC; (repeat' split) <;> omega), rfl⟩ rfl dX9_kindAt_68
          · refine lv_aload_n C.1 C.2.1 dX9_kindAt_51 rfl (lv_at hl 0 rfl) ?_
            refine lv_iload_n C.1 C.2.1 dX9_kindAt_52 rfl (lv_at hl 1 rfl) ?_
            refine lv_iconst (v := zI 1) C.1 C.2.1 dX9_kindAt_53 (by decide) ?_
            refine y_iaddN C (a := fp + i) (b := 1) dX9_kindAt_54 ?_
            refine z_readV C (As := [zN ((fp + i) + 1)]) (rest := []) (c_u1 l Z hM hB (fp + (i + 1)) (by omega) (by omega)) hM.byt rfl ⟨⟨zw_9_12, zw_2_15, zw_12_6⟩, zd_X1_u1⟩ zw_9_10 zw_9_11 ⟨Nat.le_of_ble_eq_true rfl, Nat.le_of_ble_eq_true rfl⟩ ⟨rfl, rfl⟩ rfl hl.1 rfl (Nat.le_of_ble_eq_true rfl) dX9_kindAt_55 ⟨Nat.zero_le _, Nat.zero_le _⟩ hS (fun locs hS => ?_)
            have := hB.1 (fp + (i + 1))
            refine lv_bipush (v := zI 73) C.1 C.2.1 dX9_kindAt_58 (by decide) ?_
            refine y_icmp_ne (tgt := 67) C (a := ((F (fp + (i + 1)) : Nat) : Int)) (b := 73) dX9_kindAt_60 (by decide) (by omega) (fun h60 => ?_) (fun h60 => ?_)
            · refine lv_iconst (v := zI 0) C.1 C.2.1 dX9_kindAt_67 (by decide) ?_
              exact hret _ _ _ _ (zI 0) hS ⟨congrArg (fun x : Int => some (zV x)) (by unfold kd nmC; (repeat' split) <;> omega), rfl⟩ rfl dX9_kindAt_68
            · refine lv_iconst (v := zI 4) C.1 C.2.1 dX9_kindAt_63 (by decide) ?_
              refine lv_goto (tgt := 68) C.1 C.2.1 dX9_kindAt_64 (by decide) ?_
              exact hret _ _ _ _ (zI 4) hS ⟨congrArg (fun x : Int => some (zV x)) (by unfold kd nmC; (repeat' split) <;> omega), rfl⟩ rfl dX9_kindAt_68
      · refine lv_iconst (v := zI 2) C.1 C.2.1 dX9_kindAt_32 (by decide) ?_
        exact hret _ _ _ _ (zI 2) hS ⟨congrArg (fun x : Int => some (zV x)) (by unfold kd nmC; (repeat' split) <;> omega), rfl⟩ rfl dX9_kindAt_33
  · refine lv_aload_n C.1 C.2.1 dX9_kindAt_5 rfl (lv_at hl 0 rfl) ?_
    refine lv_iload_n C.1 C.2.1 dX9_kindAt_6 rfl (lv_at hl 1 rfl) ?_
    refine z_readV C (As := [zN (fp + i)]) (rest := []) (c_u1 l Z hM hB (fp + i) rfl (by omega)) hM.byt rfl ⟨⟨zw_9_12, zw_2_15, zw_12_6⟩, zd_X1_u1⟩ zw_9_10 zw_9_11 ⟨Nat.le_of_ble_eq_true rfl, Nat.le_of_ble_eq_true rfl⟩ ⟨rfl, rfl⟩ rfl hl.1 rfl (Nat.le_of_ble_eq_true rfl) dX9_kindAt_7 ⟨Nat.zero_le _, Nat.zero_le _⟩ hS (fun locs hS => ?_)
    have := hB.1 (fp + i)
    refine lv_bipush (v := zI 73) C.1 C.2.1 dX9_kindAt_10 (by decide) ?_
    refine y_icmp_ne (tgt := 17) C (a := ((F (fp + i) : Nat) : Int)) (b := 73) dX9_kindAt_12 (by decide) (by omega) (fun h12 => ?_) (fun h12 => ?_)
    · refine lv_iload_n C.1 C.2.1 dX9_kindAt_17 rfl (lv_at hl 1 rfl) ?_
      refine lv_iload_n C.1 C.2.1 dX9_kindAt_18 rfl (lv_at hl 2 rfl) ?_
      refine y_icmp_ge (tgt := 34) C (a := ((fp + i : Nat) : Int)) (b := ((fp + ln : Nat) : Int)) dX9_kindAt_19 (by decide) (by omega) (fun h19 => ?_) (fun h19 => ?_)
      · refine lv_iload_n C.1 C.2.1 dX9_kindAt_34 rfl (lv_at hl 1 rfl) ?_
        refine lv_iconst (v := zI 1) C.1 C.2.1 dX9_kindAt_35 (by decide) ?_
        refine y_iaddN C (a := fp + i) (b := 1) dX9_kindAt_36 ?_
        refine lv_iload_n C.1 C.2.1 dX9_kindAt_37 rfl (lv_at hl 2 rfl) ?_
        refine y_icmp_ge (tgt := 67) C (a := (((fp + i) + 1 : Nat) : Int)) (b := ((fp + ln : Nat) : Int)) dX9_kindAt_38 (by decide) (by omega) (fun h38 => ?_) (fun h38 => ?_)
        · refine lv_iconst (v := zI 0) C.1 C.2.1 dX9_kindAt_67 (by decide) ?_
          exact hret _ _ _ _ (zI 0) hS ⟨congrArg (fun x : Int => some (zV x)) (by unfold kd nmC; (repeat' split) <;> omega), rfl⟩ rfl dX9_kindAt_68
        · refine lv_aload_n C.1 C.2.1 dX9_kindAt_41 rfl (lv_at hl 0 rfl) ?_
          refine lv_iload_n C.1 C.2.1 dX9_kindAt_42 rfl (lv_at hl 1 rfl) ?_
          refine z_readV C (As := [zN (fp + i)]) (rest := []) (c_u1 l Z hM hB (fp + i) rfl (by omega)) hM.byt rfl ⟨⟨zw_9_12, zw_2_15, zw_12_6⟩, zd_X1_u1⟩ zw_9_10 zw_9_11 ⟨Nat.le_of_ble_eq_true rfl, Nat.le_of_ble_eq_true rfl⟩ ⟨rfl, rfl⟩ rfl hl.1 rfl (Nat.le_of_ble_eq_true rfl) dX9_kindAt_43 ⟨Nat.zero_le _, Nat.zero_le _⟩ hS (fun locs hS => ?_)
          have := hB.1 (fp + i)
          refine lv_bipush (v := zI 91) C.1 C.2.1 dX9_kindAt_46 (by decide) ?_
          refine y_icmp_ne (tgt := 67) C (a := ((F (fp + i) : Nat) : Int)) (b := 91) dX9_kindAt_48 (by decide) (by omega) (fun h48 => ?_) (fun h48 => ?_)
          · refine lv_iconst (v := zI 0) C.1 C.2.1 dX9_kindAt_67 (by decide) ?_
            exact hret _ _ _ _ (zI 0) hS ⟨congrArg (fun x : Int => some (zV x)) (by unfold kd nmC; (repeat' split) <;> omega), rfl⟩ rfl dX9_kindAt_68
          · refine lv_aload_n C.1 C.2.1 dX9_kindAt_51 rfl (lv_at hl 0 rfl) ?_
            refine lv_iload_n C.1 C.2.1 dX9_kindAt_52 rfl (lv_at hl 1 rfl) ?_
            refine lv_iconst (v := zI 1) C.1 C.2.1 dX9_kindAt_53 (by decide) ?_
            refine y_iaddN C (a := fp + i) (b := 1) dX9_kindAt_54 ?_
            refine z_readV C (As := [zN ((fp + i) + 1)]) (rest := []) (c_u1 l Z hM hB (fp + (i + 1)) (by omega) (by omega)) hM.byt rfl ⟨⟨zw_9_12, zw_2_15, zw_12_6⟩, zd_X1_u1⟩ zw_9_10 zw_9_11 ⟨Nat.le_of_ble_eq_true rfl, Nat.le_of_ble_eq_true rfl⟩ ⟨rfl, rfl⟩ rfl hl.1 rfl (Nat.le_of_ble_eq_true rfl) dX9_kindAt_55 ⟨Nat.zero_le _, Nat.zero_le _⟩ hS (fun locs hS => ?_)
            have := hB.1 (fp + (i + 1))
            refine lv_bipush (v := zI 73) C.1 C.2.1 dX9_kindAt_58 (by decide) ?_
            refine y_icmp_ne (tgt := 67) C (a := ((F (fp + (i + 1)) : Nat) : Int)) (b := 73) dX9_kindAt_60 (by decide) (by omega) (fun h60 => ?_) (fun h60 => ?_)
            · refine lv_iconst (v := zI 0) C.1 C.2.1 dX9_kindAt_67 (by decide) ?_
              exact hret _ _ _ _ (zI 0) hS ⟨congrArg (fun x : Int => some (zV x)) (by unfold kd nmC; (repeat' split) <;> omega), rfl⟩ rfl dX9_kindAt_68
            · refine lv_iconst (v := zI 4) C.1 C.2.1 dX9_kindAt_63 (by decide) ?_
              refine lv_goto (tgt := 68) C.1 C.2.1 dX9_kindAt_64 (by decide) ?_
              exact hret _ _ _ _ (zI 4) hS ⟨congrArg (fun x : Int => some (zV x)) (by unfold kd nmC; (repeat' split) <;> omega), rfl⟩ rfl dX9_kindAt_68
      · refine lv_aload_n C.1 C.2.1 dX9_kindAt_22 rfl (lv_at hl 0 rfl) ?_
        refine lv_iload_n C.1 C.2.1 dX9_kindAt_23 rfl (lv_at hl 1 rfl) ?_
        refine z_readV C (As := [zN (fp + i)]) (rest := []) (c_u1 l Z hM hB (fp + i) rfl (by omega)) hM.byt rfl ⟨⟨zw_9_12, zw_2_15, zw_12_6⟩, zd_X1_u1⟩ zw_9_10 zw_9_11 ⟨Nat.le_of_ble_eq_true rfl, Nat.le_of_ble_eq_true rfl⟩ ⟨rfl, rfl⟩ rfl hl.1 rfl (Nat.le_of_ble_eq_true rfl) dX9_kindAt_24 ⟨Nat.zero_le _, Nat.zero_le _⟩ hS (fun locs hS => ?_)
        have := hB.1 (fp + i)
        refine lv_bipush (v := zI 74) C.1 C.2.1 dX9_kindAt_27 (by decide) ?_
        refine y_icmp_ne (tgt := 34) C (a := ((F (fp + i) : Nat) : Int)) (b := 74) dX9_kindAt_29 (by decide) (by omega) (fun h29 => ?_) (fun h29 => ?_)
        · refine lv_iload_n C.1 C.2.1 dX9_kindAt_34 rfl (lv_at hl 1 rfl) ?_
          refine lv_iconst (v := zI 1) C.1 C.2.1 dX9_kindAt_35 (by decide) ?_
          refine y_iaddN C (a := fp + i) (b := 1) dX9_kindAt_36 ?_
          refine lv_iload_n C.1 C.2.1 dX9_kindAt_37 rfl (lv_at hl 2 rfl) ?_
          refine y_icmp_ge (tgt := 67) C (a := (((fp + i) + 1 : Nat) : Int)) (b := ((fp + ln : Nat) : Int)) dX9_kindAt_38 (by decide) (by omega) (fun h38 => ?_) (fun h38 => ?_)
          · refine lv_iconst (v := zI 0) C.1 C.2.1 dX9_kindAt_67 (by decide) ?_
            exact hret _ _ _ _ (zI 0) hS ⟨congrArg (fun x : Int => some (zV x)) (by unfold kd nmC; (repeat' split) <;> omega), rfl⟩ rfl dX9_kindAt_68
          · refine lv_aload_n C.1 C.2.1 dX9_kindAt_41 rfl (lv_at hl 0 rfl) ?_
            refine lv_iload_n C.1 C.2.1 dX9_kindAt_42 rfl (lv_at hl 1 rfl) ?_
            refine z_readV C (As := [zN (fp + i)]) (rest := []) (c_u1 l Z hM hB (fp + i) rfl (by omega)) hM.byt rfl ⟨⟨zw_9_12, zw_2_15, zw_12_6⟩, zd_X1_u1⟩ zw_9_10 zw_9_11 ⟨Nat.le_of_ble_eq_true rfl, Nat.le_of_ble_eq_true rfl⟩ ⟨rfl, rfl⟩ rfl hl.1 rfl (Nat.le_of_ble_eq_true rfl) dX9_kindAt_43 ⟨Nat.zero_le _, Nat.zero_le _⟩ hS (fun locs hS => ?_)
            have := hB.1 (fp + i)
            refine lv_bipush (v := zI 91) C.1 C.2.1 dX9_kindAt_46 (by decide) ?_
            refine y_icmp_ne (tgt := 67) C (a := ((F (fp + i) : Nat) : Int)) (b := 91) dX9_kindAt_48 (by decide) (by omega) (fun h48 => ?_) (fun h48 => ?_)
            · refine lv_iconst (v := zI 0) C.1 C.2.1 dX9_kindAt_67 (by decide) ?_
              exact hret _ _ _ _ (zI 0) hS ⟨congrArg (fun x : Int => some (zV x)) (by unfold kd nmC; (repeat' split) <;> omega), rfl⟩ rfl dX9_kindAt_68
            · refine lv_aload_n C.1 C.2.1 dX9_kindAt_51 rfl (lv_at hl 0 rfl) ?_
              refine lv_iload_n C.1 C.2.1 dX9_kindAt_52 rfl (lv_at hl 1 rfl) ?_
              refine lv_iconst (v := zI 1) C.1 C.2.1 dX9_kindAt_53 (by decide) ?_
              refine y_iaddN C (a := fp + i) (b := 1) dX9_kindAt_54 ?_
              refine z_readV C (As := [zN ((fp + i) + 1)]) (rest := []) (c_u1 l Z hM hB (fp + (i + 1)) (by omega) (by omega)) hM.byt rfl ⟨⟨zw_9_12, zw_2_15, zw_12_6⟩, zd_X1_u1⟩ zw_9_10 zw_9_11 ⟨Nat.le_of_ble_eq_true rfl, Nat.le_of_ble_eq_true rfl⟩ ⟨rfl, rfl⟩ rfl hl.1 rfl (Nat.le_of_ble_eq_true rfl) dX9_kindAt_55 ⟨Nat.zero_le _, Nat.zero_le _⟩ hS (fun locs hS => ?_)
              have := hB.1 (fp + (i + 1))
              refine lv_bipush (v := zI 73) C.1 C.2.1 dX9_kindAt_58 (by decide) ?_
              refine y_icmp_ne (tgt := 67) C (a := ((F (fp + (i + 1)) : Nat) : Int)) (b := 73) dX9_kindAt_60 (by decide) (by omega) (fun h60 => ?_) (fun h60 => ?_)
              · refine lv_iconst (v := zI 0) C.1 C.2.1 dX9_kindAt_67 (by decide) ?_
                exact hret _ _ _ _ (zI 0) hS ⟨congrArg (fun x : Int => some (zV x)) (by unfold kd nmC; (repeat' split) <;> omega), rfl⟩ rfl dX9_kindAt_68
              · refine lv_iconst (v := zI 4) C.1 C.2.1 dX9_kindAt_63 (by decide) ?_
                refine lv_goto (tgt := 68) C.1 C.2.1 dX9_kindAt_64 (by decide) ?_
                exact hret _ _ _ _ (zI 4) hS ⟨congrArg (fun x : Int => some (zV x)) (by unfold kd nmC; (repeat' split) <;> omega), rfl⟩ rfl dX9_kindAt_68
        · refine lv_iconst (v := zI 2) C.1 C.2.1 dX9_kindAt_32 (by decide) ?_
          exact hret _ _ _ _ (zI 2) hS ⟨congrArg (fun x : Int => some (zV x)) (by unfold kd nmC; (repeat' split) <;> omega), rfl⟩ rfl dX9_kindAt_33
    · refine lv_iconst (v := zI 1) C.1 C.2.1 dX9_kindAt_15 (by decide) ?_
      exact hret _ _ _ _ (zI 1) hS ⟨congrArg (fun x : Int => some (zV x)) (by unfold kd nmC; (repeat' split) <;> omega), rfl⟩ rfl dX9_kindAt_16

set_option maxHeartbeats 4000000 in
set_option maxRecDepth 20000 in
theorem c_X9_lettersOf (l : Launch) (Z : zT) {H : Heap} (k : Nat) (hk : k < 65536) : zP l Z yX9_lettersOf cX9_lettersOf 1 (some .int) (rmk 1) [zN k] H (zN (ltO k)) := by
  refine zM.introI (own := RX9) ⟨by decide, rfl⟩ (Nat.le_of_ble_eq_true rfl) ?_
  intro p e s m args below meth c Q ls hH C hl hret
  have hS : va_S (fun _ => False) s.heap H [] := by rw [hH]; exact va_S.rf
  have hl : lv_has ls 1 [(0, zN k)] := hl
  refine lv_iload_n C.1 C.2.1 dX9_lettersOf_0 rfl (lv_at hl 0 rfl) ?_
  refine lv_iconst (v := zI 4) C.1 C.2.1 dX9_lettersOf_1 (by decide) ?_
  refine y_icmp_ne (tgt := 9) C (a := ((k : Nat) : Int)) (b := 4) dX9_lettersOf_2 (by decide) (by omega) (fun h2 => ?_) (fun h2 => ?_)
  · refine lv_iconst (v := zI 1) C.1 C.2.1 dX9_lettersOf_9 (by decide) ?_
    exact hret _ _ _ _ (zI 1) hS ⟨congrArg (fun x : Int => some (zV x)) (by unfold ltO; split <;> omega), rfl⟩ rfl dX9_lettersOf_10
  · refine lv_iconst (v := zI 2) C.1 C.2.1 dX9_lettersOf_5 (by decide) ?_
    refine lv_goto (tgt := 10) C.1 C.2.1 dX9_lettersOf_6 (by decide) ?_
    exact hret _ _ _ _ (zI 2) hS ⟨congrArg (fun x : Int => some (zV x)) (by unfold ltO; split <;> omega), rfl⟩ rfl dX9_lettersOf_10

theorem ltO_le (k : Nat) : 1 ≤ ltO k ∧ ltO k ≤ 2 := by unfold ltO; split <;> omega

set_option maxHeartbeats 4000000 in
set_option maxRecDepth 20000 in
theorem c_X9_wholeFrom (l : Launch) (Z : zT) {H : Heap} {ad : Nat → Nat} {τ : mS} {X : List (Nat × va_E)} (hM : isC Z H ad τ X) {F : Nat → Nat} {n : Nat} (hB : cSrc τ F n) {fp ln : Nat} (hfl : fp + ln ≤ n) {t u : Int} (i : Nat) (ht : t = ((fp + i : Nat) : Int)) (hu : u = ((fp + ln : Nat) : Int)) (hi : i < 65536) : zP l Z yX9_wholeFrom cX9_wholeFrom 4 (some .int) (rmk 3) [.ref (ad 1), zV t, zV u] H (zN (kdW F fp ln i)) := by
  subst ht
  subst hu
  have hn := hB.2.2.2
  refine zM.introI (own := RX9) ⟨by decide, rfl⟩ (Nat.le_of_ble_eq_true rfl) ?_
  intro p e s m args below meth c Q ls hH C hl hret
  have hS : va_S (fun _ => False) s.heap H [] := by rw [hH]; exact va_S.rf
  have hl : lv_has ls 4 [(0, .ref (ad 1)), (1, zN (fp + i)), (2, zN (fp + ln))] := hl
  refine lv_aload_n C.1 C.2.1 dX9_wholeFrom_0 rfl (lv_at hl 0 rfl) ?_
  refine lv_iload_n C.1 C.2.1 dX9_wholeFrom_1 rfl (lv_at hl 1 rfl) ?_
  refine lv_iload_n C.1 C.2.1 dX9_wholeFrom_2 rfl (lv_at hl 2 rfl) ?_
  refine z_readS C (As := [.ref (ad 1), zN (fp + i), zN (fp + ln)]) (rest := []) (c_X9_kindAt l Z hM hB (fp := fp) (ln := ln) (by omega) (i) (by omega) (by omega) (by omega)) ⟨⟨zw_12_5, zw_11_16, zw_12_3⟩, zd_X9_kindAt⟩ zw_12_4 ⟨Nat.le_of_ble_eq_true rfl, Nat.le_of_ble_eq_true rfl⟩ ⟨rfl, rfl⟩ rfl hl.1 rfl (Nat.le_of_ble_eq_true rfl) dX9_wholeFrom_3 ⟨Nat.zero_le _, Nat.zero_le _⟩ hS (fun locs hS => ?_)
  have hk3 := kd_ty F fp ln i
  refine lv_istore_n (lv' := [(3, zN (kd F fp ln i)), (0, .ref (ad 1)), (1, zN (fp + i)), (2, zN (fp + ln))]) C.1 C.2.1 dX9_wholeFrom_6 rfl hl (by decide) rfl (fun ls hl => ?_)
  refine lv_iload_n C.1 C.2.1 dX9_wholeFrom_7 rfl (lv_at hl 0 rfl) ?_
  refine y_if_eq (tgt := 25) C (a := ((kd F fp ln i : Nat) : Int)) dX9_wholeFrom_8 (by decide) (by omega) (fun h8 => ?_) (fun h8 => ?_)
  · refine lv_iconst (v := zI 0) C.1 C.2.1 dX9_wholeFrom_25 (by decide) ?_
    exact hret _ _ _ _ (zI 0) hS ⟨congrArg (fun x : Int => some (zV x)) (by unfold kdW; split <;> omega), rfl⟩ rfl dX9_wholeFrom_26
  · refine lv_iload_n C.1 C.2.1 dX9_wholeFrom_11 rfl (lv_at hl 2 rfl) ?_
    refine lv_iload_n C.1 C.2.1 dX9_wholeFrom_12 rfl (lv_at hl 0 rfl) ?_
    refine z_readS C (As := [zN (kd F fp ln i)]) (rest := [zN (fp + i)]) (c_X9_lettersOf l Z (kd F fp ln i) (by omega)) ⟨⟨zw_12_9, zw_11_16, zw_12_7⟩, zd_X9_lettersOf⟩ zw_12_8 ⟨Nat.le_of_ble_eq_true rfl, Nat.le_of_ble_eq_true rfl⟩ ⟨rfl, rfl⟩ rfl hl.1 rfl (Nat.le_of_ble_eq_true rfl) dX9_wholeFrom_13 ⟨Nat.zero_le _, Nat.zero_le _⟩ hS (fun locs hS => ?_)
    have hlo := ltO_le (kd F fp ln i)
    refine y_iaddN C (a := fp + i) (b := ltO (kd F fp ln i)) dX9_wholeFrom_16 ?_
    refine lv_iload_n C.1 C.2.1 dX9_wholeFrom_17 rfl (lv_at hl 3 rfl) ?_
    refine y_icmp_ne (tgt := 25) C (a := (((fp + i) + (ltO (kd F fp ln i)) : Nat) : Int)) (b := ((fp + ln : Nat) : Int)) dX9_wholeFrom_18 (by decide) (by omega) (fun h18 => ?_) (fun h18 => ?_)
    · refine lv_iconst (v := zI 0) C.1 C.2.1 dX9_wholeFrom_25 (by decide) ?_
      exact hret _ _ _ _ (zI 0) hS ⟨congrArg (fun x : Int => some (zV x)) (by unfold kdW; split <;> omega), rfl⟩ rfl dX9_wholeFrom_26
    · refine lv_iload_n C.1 C.2.1 dX9_wholeFrom_21 rfl (lv_at hl 0 rfl) ?_
      refine lv_goto (tgt := 26) C.1 C.2.1 dX9_wholeFrom_22 (by decide) ?_
      exact hret _ _ _ _ (zI ((kd F fp ln i : Nat) : Int)) hS ⟨congrArg (fun x : Int => some (zV x)) (by unfold kdW; split <;> omega), rfl⟩ rfl dX9_wholeFrom_26
