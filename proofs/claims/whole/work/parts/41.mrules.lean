/-! the model: rules; a file's first broken rule -/
def t1 (r : Nat) : Option Nat → Option E2
  | none => none
  | some q => some (r, q)
theorem t1_n {r : Nat} {x : Option Nat} (h : x = none) : t1 r x = none := by rw [h]; rfl
theorem t1_s {r q : Nat} {x : Option Nat} (h : x = some q) : t1 r x = some (r, q) := by rw [h]; rfl
def fst2 (g : Nat → Option E2) : Nat → Nat → Option E2
  | 0, _ => none
  | c + 1, i => match g i with
    | some q => some q
    | none => fst2 g c (i + 1)
theorem fst2_s {g : Nat → Option E2} {c i : Nat} (h : g i = none) : fst2 g (c + 1) i = fst2 g c (i + 1) := by
  conv => lhs; unfold fst2
  rw [h]
theorem fst2_e {g : Nat → Option E2} {c i : Nat} {q : E2} (h : g i = some q) : fst2 g (c + 1) i = some q := by
  conv => lhs; unfold fst2
  rw [h]
theorem or2_n {a b : Option E2} (h : a = none) : a.or b = b := by rw [h]; rfl
theorem or2_s {a b : Option E2} {q : E2} (h : a = some q) : a.or b = some q := by rw [h]; rfl
theorem fst2_none {g : Nat → Option E2} : ∀ (c i : Nat), fst2 g c i = none → ∀ j, i ≤ j → j < i + c → g j = none := by
  intro c
  induction c with
  | zero => intro i _ j h1 h2; omega
  | succ c ih =>
    intro i h j h1 h2
    cases hg : g i with
    | none =>
      rw [fst2_s hg] at h
      by_cases e : j = i
      · rw [e]; exact hg
      · exact ih (i + 1) h j (by omega) (by omega)
    | some q => rw [fst2_e hg] at h; exact absurd h (by simp)
def x13f (F tb mt : Nat → Nat) (nf i : Nat) : Option E2 := xBody F (cP F tb mt nf i) (ppN F tb (U2 F (mt (nf + i) + 4)))
def x15f (F tb mt : Nat → Nat) (nf i : Nat) : Option Nat := x15 F (cP F tb mt nf i + 14) (cS F (cP F tb mt nf i))
def nWf (F tb mt : Nat → Nat) (nf i : Nat) : Nat := nWh F (cP F tb mt nf i + 14) (cS F (cP F tb mt nf i))
def x16f (F tb mt : Nat → Nat) (cl nf nm i : Nat) : Option Nat := x16 F tb mt cl nf nm (cP F tb mt nf i + 14) (cS F (cP F tb mt nf i)) (U2 F (cP F tb mt nf i + 8)) (nWf F tb mt nf i) (cH F (cP F tb mt nf i)) (cN F (cP F tb mt nf i))
def xR6 (F : Nat → Nat) (n : Nat) (tb : Nat → Nat) (cl nf nm : Nat) (mt : Nat → Nat) (fa last : Nat) : Option E2 :=
  (fst2 (x13f F tb mt nf) nm 0).or ((t1 15 (fst1 (x15f F tb mt nf) nm 0)).or (t1 16 (fst1 (x16f F tb mt cl nf nm) nm 0)))
def xR5 (F : Nat → Nat) (n : Nat) (tb : Nat → Nat) (cl nf nm : Nat) (mt : Nat → Nat) (fa last : Nat) : Option E2 :=
  (t1 11 (x11 F tb mt nf (nf + nm))).or ((t1 12 (x12 F tb mt nf (nf + nm))).or ((t1 17 (if last = n then none else some last)).or (xR6 F n tb cl nf nm mt fa last)))
def xRest (F : Nat → Nat) (n : Nat) (tb : Nat → Nat) (cl nf nm : Nat) (mt : Nat → Nat) (fa last : Nat) : Option E2 :=
  (t1 6 (x6 F tb (U2 F 8))).or ((t1 7 (x7 F mt cl (nf + nm))).or ((t1 8 (x8 F tb (U2 F 8) cl)).or ((t1 9 (x9 F tb (U2 F 8) mt (nf + nm) fa)).or ((t1 10 (x10 F tb (U2 F 8) mt nf (nf + nm))).or (xR5 F n tb cl nf nm mt fa last)))))
/-- the first rule that the file breaks, and where -/
def xFile (F : Nat → Nat) (n : Nat) : Option E2 := match xLay F n with
  | .error e => some e
  | .ok (tb, cl, nf, nm, mt, fa, last) => xRest F n tb cl nf nm mt fa last
theorem xFile_e {F : Nat → Nat} {n : Nat} {e : E2} (h : xLay F n = .error e) : xFile F n = some e := by unfold xFile; rw [h]
theorem xFile_ok {F : Nat → Nat} {n cl nf nm fa last : Nat} {tb mt : Nat → Nat} (h : xLay F n = .ok (tb, cl, nf, nm, mt, fa, last)) : xFile F n = xRest F n tb cl nf nm mt fa last := by unfold xFile; rw [h]
theorem xBody_ok {F : Nat → Nat} {a : Nat} {pp : Int} (h : xBody F a pp = none) : a + 14 + cS F a + 2 + 8 * cN F a + 2 ≤ cE F a ∧ U2 F (a + 6) ≤ 24 ∧ U2 F (a + 8) ≤ 24 ∧ pp ≤ (U2 F (a + 8) : Int) ∧ 1 ≤ cS F a ∧ cS F a ≤ 1200 ∧ cN F a ≤ 16 := by
  unfold xBody at h
  split at h
  · exact absurd h (by simp)
  · split at h
    · exact absurd h (by simp)
    · split at h
      · exact absurd h (by simp)
      · split at h
        · exact absurd h (by simp)
        · split at h
          · exact absurd h (by simp)
          · split at h
            · exact absurd h (by simp)
            · split at h
              · exact absurd h (by simp)
              · split at h
                · exact absurd h (by simp)
                · split at h
                  · exact absurd h (by simp)
                  · split at h
                    · exact absurd h (by simp)
                    · have e1 : cH F a = a + 14 + cS F a + 2 := rfl
                      refine ⟨?_, ?_, ?_, ?_, ?_, ?_, ?_⟩ <;> omega
theorem isWh_of {F : Nat → Nat} {ca sz : Nat} (h : x15 F ca sz = none) : isWh F ca sz (nWh F ca sz) := by
  have key : ∀ c k, (∀ i, i < k → stF F ca sz i < sz ∧ 0 < spR F ca sz (stF F ca sz i)) → stF F ca sz k ≤ sz → sz < c + stF F ca sz k → xWh F ca sz c (stF F ca sz k) = none → isWh F ca sz (k + nWL F ca sz c (stF F ca sz k)) := by
    intro c
    induction c with
    | zero => intro k h1 h2 h3 _; omega
    | succ c ih =>
      intro k h1 h2 h3 h4
      by_cases g1 : stF F ca sz k < sz
      · by_cases g2 : 0 < spR F ca sz (stF F ca sz k)
        · have g3 := spR_in g2
          rw [xWh_s g1 g2, ← stF_s] at h4
          have := ih (k + 1) (fun i hi => by
            by_cases e : i = k
            · subst e; exact ⟨g1, g2⟩
            · exact h1 i (by omega)) (by rw [stF_s]; omega) (by rw [stF_s]; omega) h4
          unfold nWL
          rw [if_pos g1, if_pos g2, ← stF_s, show k + (nWL F ca sz c (stF F ca sz (k + 1)) + 1) = k + 1 + nWL F ca sz c (stF F ca sz (k + 1)) by omega]
          exact this
        · rw [xWh_f g1 g2] at h4; exact absurd h4 (by simp)
      · unfold nWL
        rw [if_neg g1]
        exact ⟨by show stF F ca sz k = sz; omega, h1⟩
  have := key (sz + 1) 0 (fun i hi => absurd hi (Nat.not_lt_zero i)) (Nat.zero_le _) (by show sz < sz + 1 + 0; omega) h
  rw [Nat.zero_add] at this
  exact this
theorem isWh_le {F : Nat → Nat} {ca sz N : Nat} (h : isWh F ca sz N) : N ≤ sz := by
  have := stF_le h.2 N (Nat.le_refl _)
  rw [h.1] at this
  exact this
/-- what the model holds of the body of method i -/
def mBd (F : Nat → Nat) (a i : Nat) (σ : mS) : Prop := σ.2.1 25 i = zI (U2 F (a + 6) : Int) ∧ σ.2.1 26 i = zI (U2 F (a + 8) : Int) ∧ σ.2.1 27 i = zI ((a + 14 : Nat) : Int) ∧ σ.2.1 28 i = zI (cS F a : Int) ∧ σ.2.1 30 i = zI (cN F a : Int) ∧ σ.2.1 29 i = zI (cH F a : Int)
theorem mBd_new {F : Nat → Nat} {a i : Nat} {σ σ' : mS} (h : bdy F i a σ σ') : mBd F a i σ' := by
  obtain ⟨-, h1, h2, h3, h4, h5, h6⟩ := h
  refine ⟨?_, ?_, ?_, ?_, ?_, ?_⟩
  · rw [h1]; exact upd_2
  · rw [h2]; exact upd_2
  · rw [h3]; exact upd_2
  · rw [h4]; exact upd_2
  · rw [h5]; exact upd_2
  · rw [h6]; exact upd_2
theorem mBd_old {F : Nat → Nat} {a b i j : Nat} {σ σ' : mS} (h : bdy F i b σ σ') (hj : j ≠ i) (g : mBd F a j σ) : mBd F a j σ' := by
  obtain ⟨-, h1, h2, h3, h4, h5, h6⟩ := h
  obtain ⟨g1, g2, g3, g4, g5, g6⟩ := g
  refine ⟨?_, ?_, ?_, ?_, ?_, ?_⟩
  · rw [h1]; exact (upd_ne hj).trans g1
  · rw [h2]; exact (upd_ne hj).trans g2
  · rw [h3]; exact (upd_ne hj).trans g3
  · rw [h4]; exact (upd_ne hj).trans g4
  · rw [h5]; exact (upd_ne hj).trans g5
  · rw [h6]; exact (upd_ne hj).trans g6
theorem mBd.chg {F : Nat → Nat} {a i : Nat} {σ σ' : mS} {xs fs : List Nat} (g : mBd F a i σ) (h : chg xs fs σ σ') (hf : ∀ k ∈ [25, 26, 27, 28, 29, 30], k ∉ fs) : mBd F a i σ' := by
  obtain ⟨g1, g2, g3, g4, g5, g6⟩ := g
  exact ⟨(congrFun (h.2.1 25 (hf 25 (by decide))) i).trans g1, (congrFun (h.2.1 26 (hf 26 (by decide))) i).trans g2, (congrFun (h.2.1 27 (hf 27 (by decide))) i).trans g3, (congrFun (h.2.1 28 (hf 28 (by decide))) i).trans g4, (congrFun (h.2.1 30 (hf 30 (by decide))) i).trans g5, (congrFun (h.2.1 29 (hf 29 (by decide))) i).trans g6⟩
/-- how many instructions the methods before i have -/
def nB (F tb mt : Nat → Nat) (nf : Nat) : Nat → Nat
  | 0 => 0
  | i + 1 => nB F tb mt nf i + nWf F tb mt nf i
/-- what the model holds of the rows of method i -/
def mRw (F tb mt : Nat → Nat) (cl nf nm : Nat) (R T : Nat → Int32) (te i : Nat) : Prop := rowsIs F tb mt cl nf nm (cP F tb mt nf i + 14) (cS F (cP F tb mt nf i)) (U2 F (cP F tb mt nf i + 8)) (nWf F tb mt nf i) R T (nB F tb mt nf i) (nWf F tb mt nf i) te
def RX : List Nat := [4, 5, 9, 10, 16, 17, 18, 21, 24, 31, 32, 33, 35, 37, 39, 42]
def RF : List Nat := [11, 12, 13, 14, 15, 20, 22, 23, 25, 26, 27, 28, 29, 30, 34, 36, 38, 40, 41]
/-- what the model holds of a file that breaks no rule, ahead of keep() -/
def mNew (F tb mt : Nat → Nat) (cl nf nm : Nat) (σ : mS) : Prop := ∃ te : Nat, te ≤ 28800 ∧ σ.1 37 = zI (nB F tb mt nf nm : Int) ∧ nB F tb mt nf nm ≤ 28800 ∧ σ.1 39 = zI (te : Int) ∧ ∀ i, i < nm → mBd F (cP F tb mt nf i) i σ ∧ mRw F tb mt cl nf nm (σ.2.1 36) (σ.2.1 38) te i ∧ σ.2.1 40 i = zI (nB F tb mt nf i : Int) ∧ σ.2.1 41 i = zI (nWf F tb mt nf i : Int) ∧ nB F tb mt nf i + nWf F tb mt nf i ≤ nB F tb mt nf nm
theorem nB_le {F tb mt : Nat → Nat} {nf : Nat} : ∀ b a, a ≤ b → nB F tb mt nf a ≤ nB F tb mt nf b := by
  intro b
  induction b with
  | zero => intro a h; rw [Nat.le_zero.mp h]; exact Nat.le_refl _
  | succ b ih =>
    intro a h
    by_cases e : a = b + 1
    · subst e; exact Nat.le_refl _
    · have := ih a (by omega)
      show _ ≤ nB F tb mt nf b + nWf F tb mt nf b
      omega

set_option maxHeartbeats 4000000 in
set_option maxRecDepth 20000 in
theorem c_X12_rules (l : Launch) (Z : zT) {H : Heap} {o : Nat} {ad : Nat → Nat} {σ : mS} (hM : isM Z H o ad σ) {F : Nat → Nat} {n : Nat} (hB : mSrc σ F n) (h8 : σ.1 8 = zI (n : Int)) : zX l Z yX12_rules cX12_rules 3 none (rmk 11) [.ref o] H (mA o ad) 0 0 (fun v H' => v = none ∧ ∃ (σ' : mS) (tb : Nat → Nat) (cl nf nm : Nat) (mt : Nat → Nat) (fa last : Nat), xLay F n = .ok (tb, cl, nf, nm, mt, fa, last) ∧ xFile F n = none ∧ isM Z H' o ad σ' ∧ chg RX RF σ σ' ∧ mLay σ' F n tb cl nf nm mt fa last ∧ mNew F tb mt cl nf nm σ') (fun H' => ∃ r w : Nat, xFile F n = some (r, w) ∧ mBrk Z o ad RX RF σ r w H') := by
  have hB0 := hB
  refine zX.introV (own := RX12) ⟨by decide, rfl⟩ (Nat.le_of_ble_eq_true rfl) ?_
  intro p e s m args below meth c Q ls hH C hl hth hret
  have hS : va_S (mA o ad) s.heap H [] := by rw [hH]; exact va_S.rf
  have hl : lv_has ls 3 [(0, .ref o)] := hl
  refine lv_aload_n C.1 C.2.1 dX12_rules_0 rfl (lv_at hl 0 rfl) ?_
  refine z_callVX C (As := []) (rest := []) (c_X12_layout l Z hM hB h8) hM.1 rfl ⟨⟨zw_26_6, zw_1_5, zw_26_3⟩, zd_X12_layout⟩ zw_26_4 zw_26_5 ⟨Nat.le_of_ble_eq_true rfl, Nat.le_of_ble_eq_true rfl⟩ ⟨rfl, rfl⟩ rfl hl.1 rfl (Nat.le_of_ble_eq_true rfl) dX12_rules_1 ⟨Nat.zero_le _, Nat.zero_le _⟩ hS (fun _ h => h) (fun H9 locs9 q9 ce9 hp9 hS9 _ _ g1 g2 g3 => ?_) (fun v H locs hp hS _ _ => ?_)
  · obtain ⟨r9, w9, hw9, hb9⟩ := hp9
    exact hth _ _ _ _ _ _ _ hS9 ⟨r9, w9, xFile_e hw9, mBrk_up chg.rf hb9 (by decide) (by decide)⟩ g1 g2 g3
  obtain ⟨rfl, σ0, tb, cl, nf, nm, mt, fa, last, hx, hM, hc0, hL⟩ := hp
  have hB := hB.chg hc0 (by decide) (by decide)
  have hxF := xFile_ok hx
  have hc : chg RX RF σ σ0 := hc0.mono (by decide) (by decide)
  have hn := hB.2.2.2
  have hpc := hL.2.1
  have hcl := hL.2.2.2.2.2.1
  have hnf := hL.2.2.2.2.2.2.2.2.1
  have hnm := hL.2.2.2.2.2.2.2.2.2.1
  have hMt := hL.2.2.2.2.2.2.2.2.2.2.1
  have hna := hL.2.2.2.2.2.2.2.2.2.2.2.2.1
  have hfa := hL.2.2.2.2.2.2.2.2.2.2.2.2.2.1
  have hlast := hL.2.2.2.2.2.2.2.2.2.2.2.2.2.2.2.2
  have h8 := (hc0.1 8 (by decide)).trans h8
  refine lv_aload_n C.1 C.2.1 dX12_rules_4 rfl (lv_at hl 0 rfl) ?_
  refine z_callVX C (As := []) (rest := []) (c_X12_entries l Z hM hB hL) hM.1 rfl ⟨⟨zw_28_14, zw_1_5, zw_28_11⟩, zd_X12_entries⟩ zw_28_12 zw_28_13 ⟨Nat.le_of_ble_eq_true rfl, Nat.le_of_ble_eq_true rfl⟩ ⟨rfl, rfl⟩ rfl hl.1 rfl (Nat.le_of_ble_eq_true rfl) dX12_rules_5 ⟨Nat.zero_le _, Nat.zero_le _⟩ hS (fun _ h => h) (fun H9 locs9 q9 ce9 hp9 hS9 _ _ g1 g2 g3 => ?_) (fun v H locs hp hS _ _ => ?_)
  · obtain ⟨w9, hw9, hb9⟩ := hp9
    exact hth _ _ _ _ _ _ _ hS9 ⟨6, w9, (by rw [hxF]; unfold xRest; exact or2_s (t1_s hw9)), mBrk_up hc hb9 (by decide) (by decide)⟩ g1 g2 g3
  obtain ⟨rfl, hx6, hM⟩ := hp
  refine lv_aload_n C.1 C.2.1 dX12_rules_8 rfl (lv_at hl 0 rfl) ?_
  refine z_callVX C (As := []) (rest := []) (c_X12_flags l Z hM hB hL) hM.1 rfl ⟨⟨zw_28_22, zw_1_5, zw_28_19⟩, zd_X12_flags⟩ zw_28_20 zw_28_21 ⟨Nat.le_of_ble_eq_true rfl, Nat.le_of_ble_eq_true rfl⟩ ⟨rfl, rfl⟩ rfl hl.1 rfl (Nat.le_of_ble_eq_true rfl) dX12_rules_9 ⟨Nat.zero_le _, Nat.zero_le _⟩ hS (fun _ h => h) (fun H9 locs9 q9 ce9 hp9 hS9 _ _ g1 g2 g3 => ?_) (fun v H locs hp hS _ _ => ?_)
  · obtain ⟨w9, hw9, hb9⟩ := hp9
    exact hth _ _ _ _ _ _ _ hS9 ⟨7, w9, (by rw [hxF]; unfold xRest; rw [or2_n (t1_n hx6)]; exact or2_s (t1_s hw9)), mBrk_up hc hb9 (by decide) (by decide)⟩ g1 g2 g3
  obtain ⟨rfl, hx7, hM⟩ := hp
  refine lv_aload_n C.1 C.2.1 dX12_rules_12 rfl (lv_at hl 0 rfl) ?_
  refine z_callVX C (As := []) (rest := []) (c_X12_classes l Z hM hB hL) hM.1 rfl ⟨⟨zw_29_2, zw_1_5, zw_28_23⟩, zd_X12_classes⟩ zw_29_0 zw_29_1 ⟨Nat.le_of_ble_eq_true rfl, Nat.le_of_ble_eq_true rfl⟩ ⟨rfl, rfl⟩ rfl hl.1 rfl (Nat.le_of_ble_eq_true rfl) dX12_rules_13 ⟨Nat.zero_le _, Nat.zero_le _⟩ hS (fun _ h => h) (fun H9 locs9 q9 ce9 hp9 hS9 _ _ g1 g2 g3 => ?_) (fun v H locs hp hS _ _ => ?_)
  · obtain ⟨w9, hw9, hb9⟩ := hp9
    exact hth _ _ _ _ _ _ _ hS9 ⟨8, w9, (by rw [hxF]; unfold xRest; rw [or2_n (t1_n hx6), or2_n (t1_n hx7)]; exact or2_s (t1_s hw9)), mBrk_up hc hb9 (by decide) (by decide)⟩ g1 g2 g3
  obtain ⟨rfl, hx8, hM⟩ := hp
  refine lv_aload_n C.1 C.2.1 dX12_rules_16 rfl (lv_at hl 0 rfl) ?_
  refine z_callVX C (As := []) (rest := []) (c_X12_names l Z hM hB hL) hM.1 rfl ⟨⟨zw_29_6, zw_1_5, zw_29_3⟩, zd_X12_names⟩ zw_29_4 zw_29_5 ⟨Nat.le_of_ble_eq_true rfl, Nat.le_of_ble_eq_true rfl⟩ ⟨rfl, rfl⟩ rfl hl.1 rfl (Nat.le_of_ble_eq_true rfl) dX12_rules_17 ⟨Nat.zero_le _, Nat.zero_le _⟩ hS (fun _ h => h) (fun H9 locs9 q9 ce9 hp9 hS9 _ _ g1 g2 g3 => ?_) (fun v H locs hp hS _ _ => ?_)
  · obtain ⟨w9, hw9, hb9⟩ := hp9
    exact hth _ _ _ _ _ _ _ hS9 ⟨9, w9, (by rw [hxF]; unfold xRest; rw [or2_n (t1_n hx6), or2_n (t1_n hx7), or2_n (t1_n hx8)]; exact or2_s (t1_s hw9)), mBrk_up hc hb9 (by decide) (by decide)⟩ g1 g2 g3
  obtain ⟨rfl, hx9, hM⟩ := hp
  refine lv_aload_n C.1 C.2.1 dX12_rules_20 rfl (lv_at hl 0 rfl) ?_
  refine z_callVX C (As := []) (rest := []) (c_X12_types l Z hM hB hL hx6 hx9) hM.1 rfl ⟨⟨zw_29_14, zw_1_5, zw_29_11⟩, zd_X12_types⟩ zw_29_12 zw_29_13 ⟨Nat.le_of_ble_eq_true rfl, Nat.le_of_ble_eq_true rfl⟩ ⟨rfl, rfl⟩ rfl hl.1 rfl (Nat.le_of_ble_eq_true rfl) dX12_rules_21 ⟨Nat.zero_le _, Nat.zero_le _⟩ hS (fun _ h => h) (fun H9 locs9 q9 ce9 hp9 hS9 _ _ g1 g2 g3 => ?_) (fun v H locs hp hS _ _ => ?_)
  · obtain ⟨w9, hw9, hb9⟩ := hp9
    exact hth _ _ _ _ _ _ _ hS9 ⟨10, w9, (by rw [hxF]; unfold xRest; rw [or2_n (t1_n hx6), or2_n (t1_n hx7), or2_n (t1_n hx8), or2_n (t1_n hx9)]; exact or2_s (t1_s hw9)), mBrk_up hc hb9 (by decide) (by decide)⟩ g1 g2 g3
  obtain ⟨rfl, hx10, hM⟩ := hp
  refine lv_aload_n C.1 C.2.1 dX12_rules_24 rfl (lv_at hl 0 rfl) ?_
  refine z_callVX C (As := []) (rest := []) (c_X12_twice l Z hM hB hL hx9) hM.1 rfl ⟨⟨zw_30_10, zw_1_5, zw_30_7⟩, zd_X12_twice⟩ zw_30_8 zw_30_9 ⟨Nat.le_of_ble_eq_true rfl, Nat.le_of_ble_eq_true rfl⟩ ⟨rfl, rfl⟩ rfl hl.1 rfl (Nat.le_of_ble_eq_true rfl) dX12_rules_25 ⟨Nat.zero_le _, Nat.zero_le _⟩ hS (fun _ h => h) (fun H9 locs9 q9 ce9 hp9 hS9 _ _ g1 g2 g3 => ?_) (fun v H locs hp hS _ _ => ?_)
  · obtain ⟨w9, hw9, hb9⟩ := hp9
    exact hth _ _ _ _ _ _ _ hS9 ⟨11, w9, (by rw [hxF]; unfold xRest; rw [or2_n (t1_n hx6), or2_n (t1_n hx7), or2_n (t1_n hx8), or2_n (t1_n hx9), or2_n (t1_n hx10)]; unfold xR5; exact or2_s (t1_s hw9)), mBrk_up hc hb9 (by decide) (by decide)⟩ g1 g2 g3
  obtain ⟨rfl, hx11, hM⟩ := hp
  refine lv_aload_n C.1 C.2.1 dX12_rules_28 rfl (lv_at hl 0 rfl) ?_
  refine z_callVX C (As := []) (rest := []) (c_X12_codes l Z hM hB hL hx9) hM.1 rfl ⟨⟨zw_30_18, zw_1_5, zw_30_15⟩, zd_X12_codes⟩ zw_30_16 zw_30_17 ⟨Nat.le_of_ble_eq_true rfl, Nat.le_of_ble_eq_true rfl⟩ ⟨rfl, rfl⟩ rfl hl.1 rfl (Nat.le_of_ble_eq_true rfl) dX12_rules_29 ⟨Nat.zero_le _, Nat.zero_le _⟩ hS (fun _ h => h) (fun H9 locs9 q9 ce9 hp9 hS9 _ _ g1 g2 g3 => ?_) (fun v H locs hp hS _ _ => ?_)
  · obtain ⟨w9, hw9, hb9⟩ := hp9
    exact hth _ _ _ _ _ _ _ hS9 ⟨12, w9, (by rw [hxF]; unfold xRest; rw [or2_n (t1_n hx6), or2_n (t1_n hx7), or2_n (t1_n hx8), or2_n (t1_n hx9), or2_n (t1_n hx10)]; unfold xR5; rw [or2_n (t1_n hx11)]; exact or2_s (t1_s hw9)), mBrk_up hc hb9 (by decide) (by decide)⟩ g1 g2 g3
  obtain ⟨rfl, hx12, hM⟩ := hp
  refine lv_aload_n C.1 C.2.1 dX12_rules_32 rfl (lv_at hl 0 rfl) ?_
  refine lv_aload_n C.1 C.2.1 dX12_rules_33 rfl (lv_at hl 0 rfl) ?_
  refine m_get C hM 24 (v := .int (σ0.1 24)) (by decide) zw_25_22 rfl rfl dX12_rules_34 ?_
  refine z_re (y := zI ((last : Nat) : Int)) hL.2.2.2.2.2.2.2.2.2.2.2.2.2.2.2.1 ?_
  refine lv_aload_n C.1 C.2.1 dX12_rules_37 rfl (lv_at hl 0 rfl) ?_
  refine m_get C hM 8 (v := .int (σ0.1 8)) (by decide) zw_25_15 rfl rfl dX12_rules_38 ?_
  refine z_re (y := zI ((n : Nat) : Int)) h8 ?_
  refine y_icmp_ne (tgt := 48) C (a := ((last : Nat) : Int)) (b := ((n : Nat) : Int)) dX12_rules_41 (by decide) (by omega) (fun h41 => ?_) (fun h41 => ?_)
  · refine lv_iconst (v := zI 0) C.1 C.2.1 dX12_rules_48 (by decide) ?_
    refine lv_bipush (v := zI 17) C.1 C.2.1 dX12_rules_49 (by decide) ?_
    refine lv_aload_n C.1 C.2.1 dX12_rules_51 rfl (lv_at hl 0 rfl) ?_
    refine m_get C hM 24 (v := .int (σ0.1 24)) (by decide) zw_25_22 rfl rfl dX12_rules_52 ?_
    refine z_re (y := zI ((last : Nat) : Int)) hL.2.2.2.2.2.2.2.2.2.2.2.2.2.2.2.1 ?_
    refine z_callVX C (As := [zV (bI false), zN 17, zN last]) (rest := []) (c_X12_must l Z hM false (zI 17) (zI ((last : Nat) : Int))) hM.1 rfl ⟨⟨zw_26_16, zw_1_5, zw_26_13⟩, zd_X12_must⟩ zw_26_14 zw_26_15 ⟨Nat.le_of_ble_eq_true rfl, Nat.le_of_ble_eq_true rfl⟩ ⟨rfl, rfl⟩ rfl hl.1 rfl (Nat.le_of_ble_eq_true rfl) dX12_rules_55 ⟨Nat.zero_le _, Nat.zero_le _⟩ hS (fun _ h => h) (fun H9 locs9 q9 ce9 hp9 hS9 _ _ g1 g2 g3 => ?_) (fun v H locs hp hS _ _ => ?_)
    · exact hth _ _ _ _ _ _ _ hS9 (⟨17, last, (by rw [hxF]; unfold xRest; rw [or2_n (t1_n hx6), or2_n (t1_n hx7), or2_n (t1_n hx8), or2_n (t1_n hx9), or2_n (t1_n hx10)]; unfold xR5; rw [or2_n (t1_n hx11), or2_n (t1_n hx12)]; exact or2_s (t1_s (if_neg (by omega)))), ⟨_, hp9.2, rfl, rfl, (chg_sx (by decide) (chg_sx (by decide) hc))⟩⟩) g1 g2 g3
    exact absurd hp.1 (by decide)
  · refine lv_iconst (v := zI 1) C.1 C.2.1 dX12_rules_44 (by decide) ?_
    refine lv_goto (tgt := 49) C.1 C.2.1 dX12_rules_45 (by decide) ?_
    refine lv_bipush (v := zI 17) C.1 C.2.1 dX12_rules_49 (by decide) ?_
    refine lv_aload_n C.1 C.2.1 dX12_rules_51 rfl (lv_at hl 0 rfl) ?_
    refine m_get C hM 24 (v := .int (σ0.1 24)) (by decide) zw_25_22 rfl rfl dX12_rules_52 ?_
    refine z_re (y := zI ((last : Nat) : Int)) hL.2.2.2.2.2.2.2.2.2.2.2.2.2.2.2.1 ?_
    refine z_callVX C (As := [zV (bI true), zN 17, zN last]) (rest := []) (c_X12_must l Z hM true (zI 17) (zI ((last : Nat) : Int))) hM.1 rfl ⟨⟨zw_26_16, zw_1_5, zw_26_13⟩, zd_X12_must⟩ zw_26_14 zw_26_15 ⟨Nat.le_of_ble_eq_true rfl, Nat.le_of_ble_eq_true rfl⟩ ⟨rfl, rfl⟩ rfl hl.1 rfl (Nat.le_of_ble_eq_true rfl) dX12_rules_55 ⟨Nat.zero_le _, Nat.zero_le _⟩ hS (fun _ h => h) (fun H9 locs9 q9 ce9 hp9 hS9 _ _ g1 g2 g3 => ?_) (fun v H locs hp hS _ _ => ?_)
    · exact absurd hp9.1 (by decide)
    obtain ⟨-, rfl, hM⟩ := hp
    have hx17 : (if last = n then none else some last : Option Nat) = none := if_pos (by omega)
    refine lv_aload_n C.1 C.2.1 dX12_rules_58 rfl (lv_at hl 0 rfl) ?_
    refine m_get C hM 17 (v := .int (σ0.1 17)) (by decide) zw_25_23 rfl rfl dX12_rules_59 ?_
    refine z_re (y := zI ((nf + nm : Nat) : Int)) hL.2.2.2.2.2.2.1 ?_
    refine lv_aload_n C.1 C.2.1 dX12_rules_62 rfl (lv_at hl 0 rfl) ?_
    refine m_get C hM 18 (v := .int (σ0.1 18)) (by decide) zw_26_0 rfl rfl dX12_rules_63 ?_
    refine z_re (y := zI ((nf : Nat) : Int)) hL.2.2.2.2.2.2.2.1 ?_
    refine y_isub C (a := ((nf + nm : Nat) : Int)) (b := ((nf : Nat) : Int)) dX12_rules_66 ?_
    refine z_re (y := zI ((nm : Nat) : Int)) (zI_c (by omega)) ?_
    refine lv_istore_n (lv' := [(1, zN nm), (0, .ref o)]) C.1 C.2.1 dX12_rules_67 rfl hl (by decide) rfl (fun ls hl => ?_)
    refine lv_iconst (v := zI 0) C.1 C.2.1 dX12_rules_68 (by decide) ?_
    refine lv_istore_n (lv' := [(2, zN 0), (1, zN nm), (0, .ref o)]) C.1 C.2.1 dX12_rules_69 rfl hl (by decide) rfl (fun ls hl => ?_)
    have loopA : ∀ (fu : Nat) (j : Nat) (σ1 : mS) (H : Heap) (ls : Array Slot) (locs : List Loc), va_S (mA o ad) s.heap H locs → isM Z H o ad σ1 → (j + fu = nm + 1 ∧ j ≤ nm) → (chg RX RF σ σ1) → (mLay σ1 F n tb cl nf nm mt fa last) → (σ1.1 8 = zI (n : Int)) → (∀ a, a < j → mBd F (cP F tb mt nf a) a σ1) → (fst2 (x13f F tb mt nf) (nm - j) j = fst2 (x13f F tb mt nf) nm 0) → lv_has ls 3 [(2, zN j), (1, zN nm), (0, .ref o)] → W p l e (rmk 11) s m args below meth c H locs 0 0 Q (F0 m 70 ls []) := by
      intro fu
      induction fu with
      | zero =>
        intro j σ1 H ls locs hS hM hj hc hL h8 hbd hy hl
        omega
      | succ fu ih_loopA =>
        intro j σ1 H ls locs hS hM hj hc hL h8 hbd hy hl
        have hB := hB0.chg hc (by decide) (by decide)
        refine lv_iload_n C.1 C.2.1 dX12_rules_70 rfl (lv_at hl 0 rfl) ?_
        refine lv_iload_n C.1 C.2.1 dX12_rules_71 rfl (lv_at hl 1 rfl) ?_
        refine y_icmp_ge (tgt := 86) C (a := ((j : Nat) : Int)) (b := ((nm : Nat) : Int)) dX12_rules_72 (by decide) (by omega) (fun h72 => ?_) (fun h72 => ?_)
        · have hx13 : fst2 (x13f F tb mt nf) nm 0 = none := by rw [← hy, show nm - j = 0 by omega]; rfl
          have hbd : ∀ a, a < nm → mBd F (cP F tb mt nf a) a σ1 := fun a h => hbd a (by omega)
          have hbk : ∀ a, a < nm → _ := fun a h => xBody_ok (fst2_none _ _ hx13 a (Nat.zero_le _) (by omega))
          have hce : ∀ a, a < nm → cE F (cP F tb mt nf a) ≤ n := fun a h => (hL.cd hx12 h).2.2
          refine lv_iconst (v := zI 0) C.1 C.2.1 dX12_rules_86 (by decide) ?_
          refine lv_istore_n (lv' := [(2, zN 0), (1, zN nm), (0, .ref o)]) C.1 C.2.1 dX12_rules_87 rfl hl (by decide) rfl (fun ls hl => ?_)
          have loopB : ∀ (fv : Nat) (j : Nat) (σ2 : mS) (H : Heap) (ls : Array Slot) (locs : List Loc), va_S (mA o ad) s.heap H locs → isM Z H o ad σ2 → (j + fv = nm + 1 ∧ j ≤ nm) → (chg RX RF σ σ2) → (mLay σ2 F n tb cl nf nm mt fa last) → (∀ a, a < nm → mBd F (cP F tb mt nf a) a σ2) → (fst1 (x15f F tb mt nf) (nm - j) j = fst1 (x15f F tb mt nf) nm 0) → lv_has ls 3 [(2, zN j), (1, zN nm), (0, .ref o)] → W p l e (rmk 11) s m args below meth c H locs 0 0 Q (F0 m 88 ls []) := by
            intro fv
            induction fv with
            | zero =>
              intro j σ2 H ls locs hS hM hj hc hL hbd hy hl
              omega
            | succ fv ih_loopB =>
              intro j σ2 H ls locs hS hM hj hc hL hbd hy hl
              have hB := hB0.chg hc (by decide) (by decide)
              refine lv_iload_n C.1 C.2.1 dX12_rules_88 rfl (lv_at hl 0 rfl) ?_
              refine lv_iload_n C.1 C.2.1 dX12_rules_89 rfl (lv_at hl 1 rfl) ?_
              refine y_icmp_ge (tgt := 104) C (a := ((j : Nat) : Int)) (b := ((nm : Nat) : Int)) dX12_rules_90 (by decide) (by omega) (fun h90 => ?_) (fun h90 => ?_)
              · have hx15 : fst1 (x15f F tb mt nf) nm 0 = none := by rw [← hy, show nm - j = 0 by omega]; rfl
                have h15 : ∀ a, a < nm → x15f F tb mt nf a = none := fun a h => fst1_none _ _ hx15 a (Nat.zero_le _) (by omega)
                refine lv_aload_n C.1 C.2.1 dX12_rules_104 rfl (lv_at hl 2 rfl) ?_
                refine lv_iconst (v := zI 0) C.1 C.2.1 dX12_rules_105 (by decide) ?_
                refine m_put C hM 37 (sx σ2 37 (zI 0)) rfl rfl (by decide) zw_26_1 rfl rfl rfl rfl hS dX12_rules_106 (fun H locs hM hS => ?_)
                refine lv_aload_n C.1 C.2.1 dX12_rules_109 rfl (lv_at hl 2 rfl) ?_
                refine lv_iconst (v := zI 0) C.1 C.2.1 dX12_rules_110 (by decide) ?_
                refine m_put C hM 39 (sx (sx σ2 37 (zI 0)) 39 (zI 0)) rfl rfl (by decide) zw_26_2 rfl rfl rfl rfl hS dX12_rules_111 (fun H locs hM hS => ?_)
                refine lv_iconst (v := zI 0) C.1 C.2.1 dX12_rules_114 (by decide) ?_
                refine lv_istore_n (lv' := [(2, zN 0), (1, zN nm), (0, .ref o)]) C.1 C.2.1 dX12_rules_115 rfl hl (by decide) rfl (fun ls hl => ?_)
                have loopC : ∀ (fw : Nat) (j : Nat) (te : Nat) (σ3 : mS) (H : Heap) (ls : Array Slot) (locs : List Loc), va_S (mA o ad) s.heap H locs → isM Z H o ad σ3 → (j + fw = nm + 1 ∧ j ≤ nm ∧ te ≤ 1200 * j ∧ nB F tb mt nf j ≤ 1200 * j) → (chg RX RF σ σ3) → (mLay σ3 F n tb cl nf nm mt fa last) → (∀ a, a < nm → mBd F (cP F tb mt nf a) a σ3) → (σ3.1 37 = zI (nB F tb mt nf j : Int)) → (σ3.1 39 = zI (te : Int)) → (∀ a, a < j → mRw F tb mt cl nf nm (σ3.2.1 36) (σ3.2.1 38) te a ∧ σ3.2.1 40 a = zI (nB F tb mt nf a : Int) ∧ σ3.2.1 41 a = zI (nWf F tb mt nf a : Int)) → (fst1 (x16f F tb mt cl nf nm) (nm - j) j = fst1 (x16f F tb mt cl nf nm) nm 0) → lv_has ls 3 [(2, zN j), (1, zN nm), (0, .ref o)] → W p l e (rmk 11) s m args below meth c H locs 0 0 Q (F0 m 116 ls []) := by
                  intro fw
                  induction fw with
                  | zero =>
                    intro j te σ3 H ls locs hS hM hj hc hL hbd h37 h39 hrw hy hl
                    omega
                  | succ fw ih_loopC =>
                    intro j te σ3 H ls locs hS hM hj hc hL hbd h37 h39 hrw hy hl
                    have hB := hB0.chg hc (by decide) (by decide)
                    refine lv_iload_n C.1 C.2.1 dX12_rules_116 rfl (lv_at hl 0 rfl) ?_
                    refine lv_iload_n C.1 C.2.1 dX12_rules_117 rfl (lv_at hl 1 rfl) ?_
                    refine y_icmp_ge (tgt := 132) C (a := ((j : Nat) : Int)) (b := ((nm : Nat) : Int)) dX12_rules_118 (by decide) (by omega) (fun h118 => ?_) (fun h118 => ?_)
                    · exact hret _ _ _ _ hS ⟨rfl, σ3, tb, cl, nf, nm, mt, fa, last, hx, (by rw [hxF]; unfold xRest; rw [or2_n (t1_n hx6), or2_n (t1_n hx7), or2_n (t1_n hx8), or2_n (t1_n hx9), or2_n (t1_n hx10)]; unfold xR5; rw [or2_n (t1_n hx11), or2_n (t1_n hx12), or2_n (t1_n hx17)]; unfold xR6; rw [or2_n hx13]; rw [or2_n (t1_n hx15)]; exact t1_n (by rw [← hy, show nm - j = 0 by omega]; rfl)), hM, hc, hL, ⟨te, by omega, (by rw [h37, show j = nm by omega]), (by have := nB_le (F := F) (tb := tb) (mt := mt) (nf := nf) j nm (by omega); rw [show j = nm by omega] at hj; omega), h39, fun a h => ⟨hbd a h, (hrw a (by omega)).1, (hrw a (by omega)).2.1, (hrw a (by omega)).2.2, nB_le nm (a + 1) (by omega)⟩⟩⟩ dX12_rules_132
                    · have hu : nm - j = (nm - j - 1) + 1 := by omega
                      refine lv_aload_n C.1 C.2.1 dX12_rules_121 rfl (lv_at hl 2 rfl) ?_
                      refine lv_iload_n C.1 C.2.1 dX12_rules_122 rfl (lv_at hl 0 rfl) ?_
                      obtain ⟨k25, k26, k27, k28, k30, k29⟩ := hbd j (by omega)
                      obtain ⟨b1, b2, b3, b4, b5, b6, b7⟩ := hbk j (by omega)
                      have b8 := hce j (by omega)
                      have b9 : cH F (cP F tb mt nf j) = cP F tb mt nf j + 14 + cS F (cP F tb mt nf j) + 2 := rfl
                      refine z_callVX C (As := [zN j]) (rest := []) (c_X12_pointing l Z hM hB hL hx6 hx8 hx9 (i := j) (by omega) k26 k27 k28 k29 k30 (by omega) b6 b3 (by omega) (h15 j (by omega)) h37 (by omega) h39 (by omega)) hM.1 rfl ⟨⟨zw_33_3, zw_1_5, zw_33_0⟩, zd_X12_pointing⟩ zw_33_1 zw_33_2 ⟨Nat.le_of_ble_eq_true rfl, Nat.le_of_ble_eq_true rfl⟩ ⟨rfl, rfl⟩ rfl hl.1 rfl (Nat.le_of_ble_eq_true rfl) dX12_rules_123 ⟨Nat.zero_le _, Nat.zero_le _⟩ hS (fun _ h => h) (fun H9 locs9 q9 ce9 hp9 hS9 _ _ g1 g2 g3 => ?_) (fun v H locs hp hS _ _ => ?_)
                      · obtain ⟨w9, hw9, hb9⟩ := hp9
                        exact hth _ _ _ _ _ _ _ hS9 ⟨16, w9, (by rw [hxF]; unfold xRest; rw [or2_n (t1_n hx6), or2_n (t1_n hx7), or2_n (t1_n hx8), or2_n (t1_n hx9), or2_n (t1_n hx10)]; unfold xR5; rw [or2_n (t1_n hx11), or2_n (t1_n hx12), or2_n (t1_n hx17)]; unfold xR6; rw [or2_n hx13]; rw [or2_n (t1_n hx15)]; exact t1_s (hy.symm.trans (by rw [hu]; exact fst1_e (show x16f F tb mt cl nf nm j = _ from hw9)))), mBrk_up hc hb9 (by decide) (by decide)⟩ g1 g2 g3
                      obtain ⟨rfl, hq0, σ4, te2, hM, hq1, hqw, hq3, hq4, hq5, hq6, hq7, hq8, hq9, hq10, hq11⟩ := hp
                      have hwl : nWf F tb mt nf j ≤ cS F (cP F tb mt nf j) := isWh_le hqw
                      refine lv_iinc (v := zI ((j + 1 : Nat) : Int)) (lv' := [(2, zN (j + 1)), (1, zN nm), (0, .ref o)]) C.1 C.2.1 dX12_rules_126 hl (k := 0) rfl (zI_add _ _) (by decide) rfl (fun ls hl => ?_)
                      refine lv_goto (tgt := 116) C.1 C.2.1 dX12_rules_129 (by decide) ?_
                      exact ih_loopC (j + 1) te2 _ _ ls _ hS hM (by show j + 1 + fw = nm + 1 ∧ j + 1 ≤ nm ∧ te2 ≤ 1200 * (j + 1) ∧ nB F tb mt nf j + nWf F tb mt nf j ≤ 1200 * (j + 1); omega) (hc.tr (hq1.mono (by decide) (by decide))) (hL.chg hq1 (by decide) (by decide)) (fun a h => (hbd a h).chg hq1 (by decide)) hq3 hq4 (fun a h => by rcases Nat.lt_succ_iff_lt_or_eq.mp h with h | h; (have hab := nB_le (F := F) (tb := tb) (mt := mt) (nf := nf) j (a + 1) (by omega); obtain ⟨u1, u2, u3⟩ := hrw a h; exact ⟨u1.mono (fun b hb => hq7 b (Nat.lt_of_lt_of_le hb (Nat.mul_le_mul_left 3 hab))) hq8 hq5, (by rw [hq10]; exact (upd_ne (by omega)).trans u2), (by rw [hq11]; exact (upd_ne (by omega)).trans u3)⟩); (subst h; exact ⟨hq9, (by rw [hq10]; exact upd_2), (by rw [hq11]; exact upd_2)⟩)) (by rw [← hy, hu, fst1_s (show x16f F tb mt cl nf nm j = none from hq0), show nm - (j + 1) = nm - j - 1 by omega]) hl
                exact loopC (nm + 1) 0 0 _ _ ls _ hS hM (by show 0 + (nm + 1) = nm + 1 ∧ 0 ≤ nm ∧ 0 ≤ 1200 * 0 ∧ nB F tb mt nf 0 ≤ 1200 * 0; exact ⟨by omega, by omega, by omega, Nat.le_refl _⟩) (chg_sx (by decide) (chg_sx (by decide) hc)) (hL.chg (xs := [37, 39]) (fs := []) (chg_sx (by decide) (chg_sx (by decide) chg.rf)) (by decide) (by decide)) (fun a h => hbd a h) rfl rfl (fun a h => absurd h (Nat.not_lt_zero a)) rfl hl
              · have hu : nm - j = (nm - j - 1) + 1 := by omega
                refine lv_aload_n C.1 C.2.1 dX12_rules_93 rfl (lv_at hl 2 rfl) ?_
                refine lv_iload_n C.1 C.2.1 dX12_rules_94 rfl (lv_at hl 0 rfl) ?_
                obtain ⟨k25, k26, k27, k28, k30, k29⟩ := hbd j (by omega)
                obtain ⟨b1, b2, b3, b4, b5, b6, b7⟩ := hbk j (by omega)
                have b8 := hce j (by omega)
                have b9 : cH F (cP F tb mt nf j) = cP F tb mt nf j + 14 + cS F (cP F tb mt nf j) + 2 := rfl
                refine z_callVX C (As := [zN j]) (rest := []) (c_X12_wholes l Z hM hB (by omega) k27 k28 (by omega) b6) hM.1 rfl ⟨⟨zw_31_17, zw_1_5, zw_31_14⟩, zd_X12_wholes⟩ zw_31_15 zw_31_16 ⟨Nat.le_of_ble_eq_true rfl, Nat.le_of_ble_eq_true rfl⟩ ⟨rfl, rfl⟩ rfl hl.1 rfl (Nat.le_of_ble_eq_true rfl) dX12_rules_95 ⟨Nat.zero_le _, Nat.zero_le _⟩ hS (fun _ h => h) (fun H9 locs9 q9 ce9 hp9 hS9 _ _ g1 g2 g3 => ?_) (fun v H locs hp hS _ _ => ?_)
                · obtain ⟨w9, hw9, hb9⟩ := hp9
                  exact hth _ _ _ _ _ _ _ hS9 ⟨15, w9, (by rw [hxF]; unfold xRest; rw [or2_n (t1_n hx6), or2_n (t1_n hx7), or2_n (t1_n hx8), or2_n (t1_n hx9), or2_n (t1_n hx10)]; unfold xR5; rw [or2_n (t1_n hx11), or2_n (t1_n hx12), or2_n (t1_n hx17)]; unfold xR6; rw [or2_n hx13]; exact or2_s (t1_s (hy.symm.trans (by rw [hu]; exact fst1_e (show x15f F tb mt nf j = _ from hw9))))), mBrk_up hc hb9 (by decide) (by decide)⟩ g1 g2 g3
                obtain ⟨rfl, hq0, σ3, N, hM, hq1, -, -⟩ := hp
                refine lv_iinc (v := zI ((j + 1 : Nat) : Int)) (lv' := [(2, zN (j + 1)), (1, zN nm), (0, .ref o)]) C.1 C.2.1 dX12_rules_98 hl (k := 0) rfl (zI_add _ _) (by decide) rfl (fun ls hl => ?_)
                refine lv_goto (tgt := 88) C.1 C.2.1 dX12_rules_101 (by decide) ?_
                exact ih_loopB (j + 1) _ _ ls _ hS hM (by omega) (hc.tr (hq1.mono (by decide) (by decide))) (hL.chg hq1 (by decide) (by decide)) (fun a h => (hbd a h).chg hq1 (by decide)) (by rw [← hy, hu, fst1_s (show x15f F tb mt nf j = none from hq0), show nm - (j + 1) = nm - j - 1 by omega]) hl
          exact loopB (nm + 1) 0 _ _ ls _ hS hM (by omega) hc hL hbd rfl hl
        · have hu : nm - j = (nm - j - 1) + 1 := by omega
          refine lv_aload_n C.1 C.2.1 dX12_rules_75 rfl (lv_at hl 2 rfl) ?_
          refine lv_iload_n C.1 C.2.1 dX12_rules_76 rfl (lv_at hl 0 rfl) ?_
          refine z_callVX C (As := [zN j]) (rest := []) (c_X12_codeItems l Z hM hB hL hx9 hx10 hx12 j (by omega)) hM.1 rfl ⟨⟨zw_31_8, zw_1_5, zw_31_5⟩, zd_X12_codeItems⟩ zw_31_6 zw_31_7 ⟨Nat.le_of_ble_eq_true rfl, Nat.le_of_ble_eq_true rfl⟩ ⟨rfl, rfl⟩ rfl hl.1 rfl (Nat.le_of_ble_eq_true rfl) dX12_rules_77 ⟨Nat.zero_le _, Nat.zero_le _⟩ hS (fun _ h => h) (fun H9 locs9 q9 ce9 hp9 hS9 _ _ g1 g2 g3 => ?_) (fun v H locs hp hS _ _ => ?_)
          · obtain ⟨r9, w9, hw9, hb9⟩ := hp9
            exact hth _ _ _ _ _ _ _ hS9 ⟨r9, w9, (by rw [hxF]; unfold xRest; rw [or2_n (t1_n hx6), or2_n (t1_n hx7), or2_n (t1_n hx8), or2_n (t1_n hx9), or2_n (t1_n hx10)]; unfold xR5; rw [or2_n (t1_n hx11), or2_n (t1_n hx12), or2_n (t1_n hx17)]; unfold xR6; exact or2_s (hy.symm.trans (by rw [hu]; exact fst2_e (show x13f F tb mt nf j = _ from hw9)))), mBrk_up hc hb9 (by decide) (by decide)⟩ g1 g2 g3
          obtain ⟨rfl, hq0, σ2, hM, hq1, hq2⟩ := hp
          refine lv_iinc (v := zI ((j + 1 : Nat) : Int)) (lv' := [(2, zN (j + 1)), (1, zN nm), (0, .ref o)]) C.1 C.2.1 dX12_rules_80 hl (k := 0) rfl (zI_add _ _) (by decide) rfl (fun ls hl => ?_)
          refine lv_goto (tgt := 70) C.1 C.2.1 dX12_rules_83 (by decide) ?_
          exact ih_loopA (j + 1) _ _ ls _ hS hM (by omega) (hc.tr (hq1.mono (by decide) (by decide))) (hL.chg hq1 (by decide) (by decide)) ((hq1.1 8 (by decide)).trans h8) (fun a h => by rcases Nat.lt_succ_iff_lt_or_eq.mp h with h | h; (exact mBd_old hq2 (by omega) (hbd a h)); (subst h; exact mBd_new hq2)) (by rw [← hy, hu, fst2_s (show x13f F tb mt nf j = none from hq0), show nm - (j + 1) = nm - j - 1 by omega]) hl
    exact loopA (nm + 1) 0 _ _ ls _ hS hM (by omega) hc hL h8 (fun j h => absurd h (Nat.not_lt_zero j)) rfl hl
