/-! the model: place, kindOf -/
def kdA (a : Nat) : Int := if a = 73 then 1 else if a = 74 then 2 else if a = 91 then 4 else 7
theorem spR_X {F : Nat → Nat} {ca sz k : Nat} (h : 0 < spR F ca sz k) : spR F ca sz k = spX F ca sz k ∧ (k : Int) + spX F ca sz k ≤ sz := by
  have h2 := spR_in h
  unfold spR at h h2 ⊢
  split at h
  · exact absurd h (by decide)
  · rename_i h3
    split at h
    · exact absurd h (by decide)
    · rename_i h4
      rw [if_neg h3, if_neg h4]
      exact ⟨rfl, by omega⟩
theorem swM_of {F : Nat → Nat} {ca sz q b : Nat} (hb : F (ca + q) = b) (h1 : b = 170 ∨ b = 171) (h : 0 < spR F ca sz q) : ∃ M, swM F ca sz q b M ∧ (2 * M + 1 : Int) ≤ spR F ca sz q := by
  obtain ⟨h2, h3⟩ := spR_X h
  have hw := swF_rg q
  have e1 : spM b = -1 := by rcases h1 with h1 | h1 <;> rw [h1] <;> rfl
  have e2 : sp1 F ca sz q = -1 := by unfold sp1; rw [hb, e1]; rfl
  have e3 : spX F ca sz q = spW F ca sz q b := by unfold spX; rw [if_pos e2, hb]
  rw [h2, e3] at h ⊢
  rw [e3] at h3
  unfold spW at h h3 ⊢
  by_cases g1 : sz < swF q + (if b = 170 then 12 else 8)
  · rw [if_pos g1] at h; exact absurd h (by decide)
  · rw [if_neg g1] at h h3 ⊢
    by_cases g2 : b = 170
    · rw [if_pos g2] at h h3 ⊢
      by_cases g3 : S4 F (ca + (swF q + 8)) - S4 F (ca + (swF q + 4)) < 0 ∨ 200 < S4 F (ca + (swF q + 8)) - S4 F (ca + (swF q + 4))
      · rw [if_pos g3] at h; exact absurd h (by decide)
      · rw [if_neg g3] at h h3 ⊢
        obtain ⟨M, hM⟩ : ∃ M : Nat, S4 F (ca + (swF q + 8)) - S4 F (ca + (swF q + 4)) + 1 = (M : Int) := Int.eq_ofNat_of_zero_le (by omega)
        exact ⟨M, Or.inl ⟨g2, hM, by omega, by omega, by omega⟩, by omega⟩
    · rw [if_neg g2] at h h3 ⊢
      by_cases g3 : S4 F (ca + (swF q + 4)) < 0 ∨ 200 < S4 F (ca + (swF q + 4)) ∨ (sz : Int) < swF q + 8 + 8 * S4 F (ca + (swF q + 4))
      · rw [if_pos g3] at h; exact absurd h (by decide)
      · rw [if_neg g3] at h h3 ⊢
        by_cases g4 : luOk F ca (swF q) ((S4 F (ca + (swF q + 4))).toNat - 1) 1 = true
        · rw [if_pos g4] at h h3 ⊢
          obtain ⟨M, hM⟩ : ∃ M : Nat, S4 F (ca + (swF q + 4)) = (M : Int) := Int.eq_ofNat_of_zero_le (by omega)
          exact ⟨M, Or.inr ⟨by omega, hM, by omega, by omega⟩, by omega⟩
        · rw [if_neg g4] at h; exact absurd h (by decide)

set_option maxHeartbeats 4000000 in
set_option maxRecDepth 20000 in
theorem c_X12_place (l : Launch) (Z : zT) {H : Heap} {o : Nat} {ad : Nat → Nat} {σ : mS} (hM : isM Z H o ad σ) {t : Int} (h6 : σ.1 6 = zI t) : zP l Z yX12_place cX12_place 1 (some .int) (rmk 1) [.ref o] H (zV t) := by
  refine zM.introI (own := RX12) ⟨by decide, rfl⟩ (Nat.le_of_ble_eq_true rfl) ?_
  intro p e s m args below meth c Q ls hH C hl hret
  have hS : va_S (fun _ => False) s.heap H [] := by rw [hH]; exact va_S.rf
  have hl : lv_has ls 1 [(0, .ref o)] := hl
  refine lv_aload_n C.1 C.2.1 dX12_place_0 rfl (lv_at hl 0 rfl) ?_
  refine m_get C hM 6 (v := .int (σ.1 6)) (by decide) zw_4_21 rfl rfl dX12_place_1 ?_
  refine z_re (y := zI t) h6 ?_
  exact hret _ _ _ _ (zI t) hS ⟨rfl, rfl⟩ rfl dX12_place_4

set_option maxHeartbeats 4000000 in
set_option maxRecDepth 20000 in
theorem c_X12_kindOf (l : Launch) (Z : zT) {H : Heap} {t : Int} (a : Nat) (ht : t = (a : Int)) (ha : a < 65536) : zP l Z yX12_kindOf cX12_kindOf 1 (some .int) (rmk 1) [zV t] H (zV (kdA a)) := by
  subst ht
  refine zM.introI (own := RX12) ⟨by decide, rfl⟩ (Nat.le_of_ble_eq_true rfl) ?_
  intro p e s m args below meth c Q ls hH C hl hret
  have hS : va_S (fun _ => False) s.heap H [] := by rw [hH]; exact va_S.rf
  have hl : lv_has ls 1 [(0, zN a)] := hl
  refine lv_iload_n C.1 C.2.1 dX12_kindOf_0 rfl (lv_at hl 0 rfl) ?_
  refine lv_bipush (v := zI 73) C.1 C.2.1 dX12_kindOf_1 (by decide) ?_
  refine y_icmp_ne (tgt := 10) C (a := ((a : Nat) : Int)) (b := 73) dX12_kindOf_3 (by decide) (by omega) (fun h3 => ?_) (fun h3 => ?_)
  · refine lv_iload_n C.1 C.2.1 dX12_kindOf_10 rfl (lv_at hl 0 rfl) ?_
    refine lv_bipush (v := zI 74) C.1 C.2.1 dX12_kindOf_11 (by decide) ?_
    refine y_icmp_ne (tgt := 20) C (a := ((a : Nat) : Int)) (b := 74) dX12_kindOf_13 (by decide) (by omega) (fun h13 => ?_) (fun h13 => ?_)
    · refine lv_iload_n C.1 C.2.1 dX12_kindOf_20 rfl (lv_at hl 0 rfl) ?_
      refine lv_bipush (v := zI 91) C.1 C.2.1 dX12_kindOf_21 (by decide) ?_
      refine y_icmp_ne (tgt := 30) C (a := ((a : Nat) : Int)) (b := 91) dX12_kindOf_23 (by decide) (by omega) (fun h23 => ?_) (fun h23 => ?_)
      · refine lv_bipush (v := zI 7) C.1 C.2.1 dX12_kindOf_30 (by decide) ?_
        exact hret _ _ _ _ (zI 7) hS ⟨congrArg (fun x : Int => some (zV x)) (by show (7 : Int) = kdA a; unfold kdA; (repeat' split) <;> omega), rfl⟩ rfl dX12_kindOf_32
      · refine lv_iconst (v := zI 4) C.1 C.2.1 dX12_kindOf_26 (by decide) ?_
        refine lv_goto (tgt := 32) C.1 C.2.1 dX12_kindOf_27 (by decide) ?_
        exact hret _ _ _ _ (zI 4) hS ⟨congrArg (fun x : Int => some (zV x)) (by show (4 : Int) = kdA a; unfold kdA; (repeat' split) <;> omega), rfl⟩ rfl dX12_kindOf_32
    · refine lv_iconst (v := zI 2) C.1 C.2.1 dX12_kindOf_16 (by decide) ?_
      refine lv_goto (tgt := 32) C.1 C.2.1 dX12_kindOf_17 (by decide) ?_
      exact hret _ _ _ _ (zI 2) hS ⟨congrArg (fun x : Int => some (zV x)) (by show (2 : Int) = kdA a; unfold kdA; (repeat' split) <;> omega), rfl⟩ rfl dX12_kindOf_32
  · refine lv_iconst (v := zI 1) C.1 C.2.1 dX12_kindOf_6 (by decide) ?_
    refine lv_goto (tgt := 32) C.1 C.2.1 dX12_kindOf_7 (by decide) ?_
    exact hret _ _ _ _ (zI 1) hS ⟨congrArg (fun x : Int => some (zV x)) (by show (1 : Int) = kdA a; unfold kdA; (repeat' split) <;> omega), rfl⟩ rfl dX12_kindOf_32
