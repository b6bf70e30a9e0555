/-! the model: the answers that only read -/
def szA (th : Bool) (fl me po : Nat) (t : Int) : Int := if th = false then -1 else if t = 0 then (fl : Int) else if t = 1 then (me : Int) else if t = 2 then (po : Int) else -1
def fdA (th : Bool) (fl : Nat) (ft : Nat → Int) (t : Int) : Int := if th = true ∧ 0 ≤ t ∧ t < (fl : Int) then ft t.toNat else -1
def mdA (th : Bool) (me : Nat) (t : Int) : Bool := decide (th = true ∧ 0 ≤ t ∧ t < (me : Int))

set_option maxHeartbeats 4000000 in
set_option maxRecDepth 20000 in
theorem c_X12_size (l : Launch) (Z : zT) {H : Heap} {o : Nat} {ad : Nat → Nat} {σ : mS} (hM : isM Z H o ad σ) {th : Bool} {fl me po : Nat} (h43 : σ.1 43 = zI (bI th)) (h44 : σ.1 44 = zI (fl : Int)) (h45 : σ.1 45 = zI (me : Int)) (h46 : σ.1 46 = zI (po : Int)) (hfl : fl ≤ 24) (hme : me ≤ 24) (t : Int) (ht : -2147483648 ≤ t ∧ t ≤ 2147483647) : zP l Z yX12_size cX12_size 2 (some .int) (rmk 1) [.ref o, zV t] H (zV (szA th fl me po t)) := by
  refine zM.introI (own := RX12) ⟨by decide, rfl⟩ (Nat.le_of_ble_eq_true rfl) ?_
  intro p e s m args below meth c Q ls hH C hl hret
  have hS : va_S (fun _ => False) s.heap H [] := by rw [hH]; exact va_S.rf
  have hl : lv_has ls 2 [(0, .ref o), (1, zV t)] := hl
  refine lv_aload_n C.1 C.2.1 dX12_size_0 rfl (lv_at hl 0 rfl) ?_
  refine m_get C hM 43 (v := .int (σ.1 43)) (by decide) zw_35_17 rfl rfl dX12_size_1 ?_
  refine z_re (y := zI (bI th)) h43 ?_
  refine y_ifb_ne (tgt := 11) C dX12_size_4 (by decide) (fun h4 => ?_) (fun h4 => ?_)
  · refine lv_iload_n C.1 C.2.1 dX12_size_11 rfl (lv_at hl 1 rfl) ?_
    refine y_if_ne (tgt := 22) C (a := t) dX12_size_12 (by decide) (by omega) (fun h12 => ?_) (fun h12 => ?_)
    · refine lv_iload_n C.1 C.2.1 dX12_size_22 rfl (lv_at hl 1 rfl) ?_
      refine lv_iconst (v := zI 1) C.1 C.2.1 dX12_size_23 (by decide) ?_
      refine y_icmp_ne (tgt := 34) C (a := t) (b := 1) dX12_size_24 (by decide) (by omega) (fun h24 => ?_) (fun h24 => ?_)
      · refine lv_iload_n C.1 C.2.1 dX12_size_34 rfl (lv_at hl 1 rfl) ?_
        refine lv_iconst (v := zI 2) C.1 C.2.1 dX12_size_35 (by decide) ?_
        refine y_icmp_ne (tgt := 46) C (a := t) (b := 2) dX12_size_36 (by decide) (by omega) (fun h36 => ?_) (fun h36 => ?_)
        · refine lv_iconst (v := zI (-1)) C.1 C.2.1 dX12_size_46 (by decide) ?_
          exact hret _ _ _ _ (zI (-1)) hS ⟨congrArg (fun x : Int => some (zV x)) (by show (-1 : Int) = szA th fl me po t; unfold szA; first | (rw [if_pos h4]) | (rw [if_neg (by rw [h4]; decide), if_neg (by omega), if_neg (by omega), if_neg (by omega)])), rfl⟩ rfl dX12_size_47
        · refine lv_aload_n C.1 C.2.1 dX12_size_39 rfl (lv_at hl 0 rfl) ?_
          refine m_get C hM 46 (v := .int (σ.1 46)) (by decide) zw_35_20 rfl rfl dX12_size_40 ?_
          refine z_re (y := zI ((po : Nat) : Int)) h46 ?_
          refine lv_goto (tgt := 47) C.1 C.2.1 dX12_size_43 (by decide) ?_
          exact hret _ _ _ _ (zI ((po : Nat) : Int)) hS ⟨congrArg (fun x : Int => some (zV x)) (by show (((po : Nat) : Int) : Int) = szA th fl me po t; unfold szA; rw [if_neg (by rw [h4]; decide), if_neg (by omega), if_neg (by omega), if_pos (by omega)]), rfl⟩ rfl dX12_size_47
      · refine lv_aload_n C.1 C.2.1 dX12_size_27 rfl (lv_at hl 0 rfl) ?_
        refine m_get C hM 45 (v := .int (σ.1 45)) (by decide) zw_35_19 rfl rfl dX12_size_28 ?_
        refine z_re (y := zI ((me : Nat) : Int)) h45 ?_
        refine lv_goto (tgt := 47) C.1 C.2.1 dX12_size_31 (by decide) ?_
        exact hret _ _ _ _ (zI ((me : Nat) : Int)) hS ⟨congrArg (fun x : Int => some (zV x)) (by show (((me : Nat) : Int) : Int) = szA th fl me po t; unfold szA; rw [if_neg (by rw [h4]; decide), if_neg (by omega), if_pos (by omega)]), rfl⟩ rfl dX12_size_47
    · refine lv_aload_n C.1 C.2.1 dX12_size_15 rfl (lv_at hl 0 rfl) ?_
      refine m_get C hM 44 (v := .int (σ.1 44)) (by decide) zw_35_18 rfl rfl dX12_size_16 ?_
      refine z_re (y := zI ((fl : Nat) : Int)) h44 ?_
      refine lv_goto (tgt := 47) C.1 C.2.1 dX12_size_19 (by decide) ?_
      exact hret _ _ _ _ (zI ((fl : Nat) : Int)) hS ⟨congrArg (fun x : Int => some (zV x)) (by show (((fl : Nat) : Int) : Int) = szA th fl me po t; unfold szA; rw [if_neg (by rw [h4]; decide), if_pos (by omega)]), rfl⟩ rfl dX12_size_47
  · refine lv_iconst (v := zI (-1)) C.1 C.2.1 dX12_size_7 (by decide) ?_
    refine lv_goto (tgt := 47) C.1 C.2.1 dX12_size_8 (by decide) ?_
    exact hret _ _ _ _ (zI (-1)) hS ⟨congrArg (fun x : Int => some (zV x)) (by show (-1 : Int) = szA th fl me po t; unfold szA; first | (rw [if_pos h4]) | (rw [if_neg (by rw [h4]; decide), if_neg (by omega), if_neg (by omega), if_neg (by omega)])), rfl⟩ rfl dX12_size_47

set_option maxHeartbeats 4000000 in
set_option maxRecDepth 20000 in
theorem c_X12_isMethod (l : Launch) (Z : zT) {H : Heap} {o : Nat} {ad : Nat → Nat} {σ : mS} (hM : isM Z H o ad σ) {th : Bool} {fl me po : Nat} (h43 : σ.1 43 = zI (bI th)) (h44 : σ.1 44 = zI (fl : Int)) (h45 : σ.1 45 = zI (me : Int)) (h46 : σ.1 46 = zI (po : Int)) (hfl : fl ≤ 24) (hme : me ≤ 24) (t : Int) (ht : -2147483648 ≤ t ∧ t ≤ 2147483647) : zP l Z yX12_isMethod cX12_isMethod 2 (some .boolean) (rmk 1) [.ref o, zV t] H (zV (bI (mdA th me t))) := by
  refine zM.introI (own := RX12) ⟨by decide, rfl⟩ (Nat.le_of_ble_eq_true rfl) ?_
  intro p e s m args below meth c Q ls hH C hl hret
  have hS : va_S (fun _ => False) s.heap H [] := by rw [hH]; exact va_S.rf
  have hl : lv_has ls 2 [(0, .ref o), (1, zV t)] := hl
  refine lv_aload_n C.1 C.2.1 dX12_isMethod_0 rfl (lv_at hl 0 rfl) ?_
  refine m_get C hM 43 (v := .int (σ.1 43)) (by decide) zw_35_17 rfl rfl dX12_isMethod_1 ?_
  refine z_re (y := zI (bI th)) h43 ?_
  refine y_ifb_eq (tgt := 23) C dX12_isMethod_4 (by decide) (fun h4 => ?_) (fun h4 => ?_)
  · refine lv_iconst (v := zI 0) C.1 C.2.1 dX12_isMethod_23 (by decide) ?_
    exact hret _ _ _ _ (zI 0) hS ⟨congrArg (fun x : Int => some (zV x)) (bI_0 (decide_eq_false (fun z => by first | (rw [h4] at z; exact absurd z.1 (by decide)) | exact absurd z.2 (by omega)))), rfl⟩ rfl dX12_isMethod_24
  · refine lv_iload_n C.1 C.2.1 dX12_isMethod_7 rfl (lv_at hl 1 rfl) ?_
    refine y_if_lt (tgt := 23) C (a := t) dX12_isMethod_8 (by decide) (by omega) (fun h8 => ?_) (fun h8 => ?_)
    · refine lv_iconst (v := zI 0) C.1 C.2.1 dX12_isMethod_23 (by decide) ?_
      exact hret _ _ _ _ (zI 0) hS ⟨congrArg (fun x : Int => some (zV x)) (bI_0 (decide_eq_false (fun z => by first | (rw [h4] at z; exact absurd z.1 (by decide)) | exact absurd z.2 (by omega)))), rfl⟩ rfl dX12_isMethod_24
    · refine lv_iload_n C.1 C.2.1 dX12_isMethod_11 rfl (lv_at hl 1 rfl) ?_
      refine lv_aload_n C.1 C.2.1 dX12_isMethod_12 rfl (lv_at hl 0 rfl) ?_
      refine m_get C hM 45 (v := .int (σ.1 45)) (by decide) zw_35_19 rfl rfl dX12_isMethod_13 ?_
      refine z_re (y := zI ((me : Nat) : Int)) h45 ?_
      refine y_icmp_ge (tgt := 23) C (a := t) (b := ((me : Nat) : Int)) dX12_isMethod_16 (by decide) (by omega) (fun h16 => ?_) (fun h16 => ?_)
      · refine lv_iconst (v := zI 0) C.1 C.2.1 dX12_isMethod_23 (by decide) ?_
        exact hret _ _ _ _ (zI 0) hS ⟨congrArg (fun x : Int => some (zV x)) (bI_0 (decide_eq_false (fun z => by first | (rw [h4] at z; exact absurd z.1 (by decide)) | exact absurd z.2 (by omega)))), rfl⟩ rfl dX12_isMethod_24
      · refine lv_iconst (v := zI 1) C.1 C.2.1 dX12_isMethod_19 (by decide) ?_
        refine lv_goto (tgt := 24) C.1 C.2.1 dX12_isMethod_20 (by decide) ?_
        exact hret _ _ _ _ (zI 1) hS ⟨congrArg (fun x : Int => some (zV x)) (bI_1 (decide_eq_true ⟨h4, by omega, by omega⟩)), rfl⟩ rfl dX12_isMethod_24

set_option maxHeartbeats 4000000 in
set_option maxRecDepth 20000 in
theorem c_X12_field (l : Launch) (Z : zT) {H : Heap} {o : Nat} {ad : Nat → Nat} {σ : mS} (hM : isM Z H o ad σ) {th : Bool} {fl me po : Nat} (h43 : σ.1 43 = zI (bI th)) (h44 : σ.1 44 = zI (fl : Int)) (h45 : σ.1 45 = zI (me : Int)) (h46 : σ.1 46 = zI (po : Int)) (hfl : fl ≤ 24) (hme : me ≤ 24) (t : Int) (ht : -2147483648 ≤ t ∧ t ≤ 2147483647) {ft : Nat → Int} (h47 : ∀ k, k < fl → σ.2.1 47 k = zI (ft k)) : zP l Z yX12_field cX12_field 2 (some .int) (rmk 1) [.ref o, zV t] H (zV (fdA th fl ft t)) := by
  refine zM.introI (own := RX12) ⟨by decide, rfl⟩ (Nat.le_of_ble_eq_true rfl) ?_
  intro p e s m args below meth c Q ls hH C hl hret
  have hS : va_S (fun _ => False) s.heap H [] := by rw [hH]; exact va_S.rf
  have hl : lv_has ls 2 [(0, .ref o), (1, zV t)] := hl
  refine lv_aload_n C.1 C.2.1 dX12_field_0 rfl (lv_at hl 0 rfl) ?_
  refine m_get C hM 43 (v := .int (σ.1 43)) (by decide) zw_35_17 rfl rfl dX12_field_1 ?_
  refine z_re (y := zI (bI th)) h43 ?_
  refine y_ifb_eq (tgt := 28) C dX12_field_4 (by decide) (fun h4 => ?_) (fun h4 => ?_)
  · refine lv_iconst (v := zI (-1)) C.1 C.2.1 dX12_field_28 (by decide) ?_
    exact hret _ _ _ _ (zI (-1)) hS ⟨congrArg (fun x : Int => some (zV x)) (by show (-1 : Int) = fdA th fl ft t; unfold fdA; first | (rw [if_neg (fun z => absurd (h4.symm.trans z.1) (by decide))]) | (rw [if_neg (fun z => absurd z.2 (by omega))])), rfl⟩ rfl dX12_field_29
  · refine lv_iload_n C.1 C.2.1 dX12_field_7 rfl (lv_at hl 1 rfl) ?_
    refine y_if_lt (tgt := 28) C (a := t) dX12_field_8 (by decide) (by omega) (fun h8 => ?_) (fun h8 => ?_)
    · refine lv_iconst (v := zI (-1)) C.1 C.2.1 dX12_field_28 (by decide) ?_
      exact hret _ _ _ _ (zI (-1)) hS ⟨congrArg (fun x : Int => some (zV x)) (by show (-1 : Int) = fdA th fl ft t; unfold fdA; first | (rw [if_neg (fun z => absurd (h4.symm.trans z.1) (by decide))]) | (rw [if_neg (fun z => absurd z.2 (by omega))])), rfl⟩ rfl dX12_field_29
    · refine lv_iload_n C.1 C.2.1 dX12_field_11 rfl (lv_at hl 1 rfl) ?_
      refine lv_aload_n C.1 C.2.1 dX12_field_12 rfl (lv_at hl 0 rfl) ?_
      refine m_get C hM 44 (v := .int (σ.1 44)) (by decide) zw_35_18 rfl rfl dX12_field_13 ?_
      refine z_re (y := zI ((fl : Nat) : Int)) h44 ?_
      refine y_icmp_ge (tgt := 28) C (a := t) (b := ((fl : Nat) : Int)) dX12_field_16 (by decide) (by omega) (fun h16 => ?_) (fun h16 => ?_)
      · refine lv_iconst (v := zI (-1)) C.1 C.2.1 dX12_field_28 (by decide) ?_
        exact hret _ _ _ _ (zI (-1)) hS ⟨congrArg (fun x : Int => some (zV x)) (by show (-1 : Int) = fdA th fl ft t; unfold fdA; first | (rw [if_neg (fun z => absurd (h4.symm.trans z.1) (by decide))]) | (rw [if_neg (fun z => absurd z.2 (by omega))])), rfl⟩ rfl dX12_field_29
      · obtain ⟨k, rfl⟩ : ∃ k : Nat, t = (k : Int) := Int.eq_ofNat_of_zero_le (by omega)
        refine lv_aload_n C.1 C.2.1 dX12_field_19 rfl (lv_at hl 0 rfl) ?_
        refine m_get C hM 47 (v := .ref (ad 47)) (by decide) zw_5_20 rfl rfl dX12_field_20 ?_
        refine lv_iload_n C.1 C.2.1 dX12_field_23 rfl (lv_at hl 1 rfl) ?_
        refine m_ald C hM 47 (by decide) k (t := ((k : Nat) : Int)) rfl (by show _ < 24; omega) dX12_field_24 ?_
        refine z_re (y := zI (ft k)) (h47 k (by omega)) ?_
        refine lv_goto (tgt := 29) C.1 C.2.1 dX12_field_25 (by decide) ?_
        exact hret _ _ _ _ (zI (ft k)) hS ⟨congrArg (fun x : Int => some (zV x)) (by show (ft k : Int) = fdA th fl ft (k : Int); unfold fdA; exact (if_pos ⟨h4, by omega, by omega⟩).symm), rfl⟩ rfl dX12_field_29

def mtA (th : Bool) (me : Nat) (hv : Nat → Nat → Int) (t u : Int) : Int := if mdA th me t = true ∧ 0 ≤ u ∧ u < 6 then hv t.toNat u.toNat else -1
def rwA (th : Bool) (me : Nat) (rn fr : Nat → Nat) (t u : Int) : Int := if mdA th me t = true ∧ 0 ≤ u ∧ u < (rn t.toNat : Int) then ((3 * (fr t.toNat + u.toNat) : Nat) : Int) else -1

set_option maxHeartbeats 4000000 in
set_option maxRecDepth 20000 in
theorem c_X12_method (l : Launch) (Z : zT) {H : Heap} {o : Nat} {ad : Nat → Nat} {σ : mS} (hM : isM Z H o ad σ) {th : Bool} {fl me po : Nat} (h43 : σ.1 43 = zI (bI th)) (h44 : σ.1 44 = zI (fl : Int)) (h45 : σ.1 45 = zI (me : Int)) (h46 : σ.1 46 = zI (po : Int)) (hfl : fl ≤ 24) (hme : me ≤ 24) (t u : Int) (ht : -2147483648 ≤ t ∧ t ≤ 2147483647) (hu : -2147483648 ≤ u ∧ u ≤ 2147483647) {hv : Nat → Nat → Int} (h48 : ∀ i w, i < me → w < 6 → σ.2.1 48 (6 * i + w) = zI (hv i w)) : zP l Z yX12_method cX12_method 3 (some .int) (rmk 2) [.ref o, zV t, zV u] H (zV (mtA th me hv t u)) := by
  refine zM.introI (own := RX12) ⟨by decide, rfl⟩ (Nat.le_of_ble_eq_true rfl) ?_
  intro p e s m args below meth c Q ls hH C hl hret
  have hS : va_S (fun _ => False) s.heap H [] := by rw [hH]; exact va_S.rf
  have hl : lv_has ls 3 [(0, .ref o), (1, zV t), (2, zV u)] := hl
  refine lv_aload_n C.1 C.2.1 dX12_method_0 rfl (lv_at hl 0 rfl) ?_
  refine lv_iload_n C.1 C.2.1 dX12_method_1 rfl (lv_at hl 1 rfl) ?_
  refine z_readV C (As := [zV t]) (rest := []) (c_X12_isMethod l Z hM h43 h44 h45 h46 hfl hme t ht) hM.1 rfl ⟨⟨zw_38_3, zw_1_5, zw_38_0⟩, zd_X12_isMethod⟩ zw_38_1 zw_38_2 ⟨Nat.le_of_ble_eq_true rfl, Nat.le_of_ble_eq_true rfl⟩ ⟨rfl, rfl⟩ rfl hl.1 rfl (Nat.le_of_ble_eq_true rfl) dX12_method_2 ⟨Nat.zero_le _, Nat.zero_le _⟩ hS (fun locs hS => ?_)
  refine y_ifb_eq (tgt := 32) C dX12_method_5 (by decide) (fun h5 => ?_) (fun h5 => ?_)
  · refine lv_iconst (v := zI (-1)) C.1 C.2.1 dX12_method_32 (by decide) ?_
    exact hret _ _ _ _ (zI (-1)) hS ⟨congrArg (fun x : Int => some (zV x)) (by show (-1 : Int) = mtA th me hv t u; unfold mtA; first | (rw [if_neg (fun z => absurd (h5.symm.trans z.1) (by decide))]) | (rw [if_neg (fun z => absurd z.2.1 (by omega))]) | (rw [if_neg (fun z => absurd z.2 (by omega))])), rfl⟩ rfl dX12_method_33
  · refine lv_iload_n C.1 C.2.1 dX12_method_8 rfl (lv_at hl 2 rfl) ?_
    refine y_if_lt (tgt := 32) C (a := u) dX12_method_9 (by decide) (by omega) (fun h9 => ?_) (fun h9 => ?_)
    · refine lv_iconst (v := zI (-1)) C.1 C.2.1 dX12_method_32 (by decide) ?_
      exact hret _ _ _ _ (zI (-1)) hS ⟨congrArg (fun x : Int => some (zV x)) (by show (-1 : Int) = mtA th me hv t u; unfold mtA; first | (rw [if_neg (fun z => absurd (h5.symm.trans z.1) (by decide))]) | (rw [if_neg (fun z => absurd z.2.1 (by omega))]) | (rw [if_neg (fun z => absurd z.2 (by omega))])), rfl⟩ rfl dX12_method_33
    · refine lv_iload_n C.1 C.2.1 dX12_method_12 rfl (lv_at hl 2 rfl) ?_
      refine lv_bipush (v := zI 6) C.1 C.2.1 dX12_method_13 (by decide) ?_
      refine y_icmp_ge (tgt := 32) C (a := u) (b := 6) dX12_method_15 (by decide) (by omega) (fun h15 => ?_) (fun h15 => ?_)
      · refine lv_iconst (v := zI (-1)) C.1 C.2.1 dX12_method_32 (by decide) ?_
        exact hret _ _ _ _ (zI (-1)) hS ⟨congrArg (fun x : Int => some (zV x)) (by show (-1 : Int) = mtA th me hv t u; unfold mtA; first | (rw [if_neg (fun z => absurd (h5.symm.trans z.1) (by decide))]) | (rw [if_neg (fun z => absurd z.2.1 (by omega))]) | (rw [if_neg (fun z => absurd z.2 (by omega))])), rfl⟩ rfl dX12_method_33
      · have hmd := of_decide_eq_true (show mdA th me t = true from h5)
        obtain ⟨i, rfl⟩ : ∃ i : Nat, t = (i : Int) := Int.eq_ofNat_of_zero_le (by omega)
        obtain ⟨k, rfl⟩ : ∃ k : Nat, u = (k : Int) := Int.eq_ofNat_of_zero_le (by omega)
        refine lv_aload_n C.1 C.2.1 dX12_method_18 rfl (lv_at hl 0 rfl) ?_
        refine m_get C hM 48 (v := .ref (ad 48)) (by decide) zw_5_21 rfl rfl dX12_method_19 ?_
        refine lv_bipush (v := zI 6) C.1 C.2.1 dX12_method_22 (by decide) ?_
        refine lv_iload_n C.1 C.2.1 dX12_method_24 rfl (lv_at hl 1 rfl) ?_
        refine y_imulN C (a := 6) (b := i) dX12_method_25 ?_
        refine lv_iload_n C.1 C.2.1 dX12_method_26 rfl (lv_at hl 2 rfl) ?_
        refine y_iaddN C (a := 6 * i) (b := k) dX12_method_27 ?_
        refine m_ald C hM 48 (by decide) ((6 * i) + k) (t := (((6 * i) + k : Nat) : Int)) rfl (by show _ < 144; omega) dX12_method_28 ?_
        refine z_re (y := zI (hv i k)) (h48 i k (by omega) (by omega)) ?_
        refine lv_goto (tgt := 33) C.1 C.2.1 dX12_method_29 (by decide) ?_
        exact hret _ _ _ _ (zI (hv i k)) hS ⟨congrArg (fun x : Int => some (zV x)) (by show (hv i k : Int) = mtA th me hv (i : Int) (k : Int); unfold mtA; exact (if_pos ⟨h5, by omega, by omega⟩).symm), rfl⟩ rfl dX12_method_33

set_option maxHeartbeats 4000000 in
set_option maxRecDepth 20000 in
theorem c_X12_rowAt (l : Launch) (Z : zT) {H : Heap} {o : Nat} {ad : Nat → Nat} {σ : mS} (hM : isM Z H o ad σ) {th : Bool} {fl me po : Nat} (h43 : σ.1 43 = zI (bI th)) (h44 : σ.1 44 = zI (fl : Int)) (h45 : σ.1 45 = zI (me : Int)) (h46 : σ.1 46 = zI (po : Int)) (hfl : fl ≤ 24) (hme : me ≤ 24) (t u : Int) (ht : -2147483648 ≤ t ∧ t ≤ 2147483647) (hu : -2147483648 ≤ u ∧ u ≤ 2147483647) {rn fr : Nat → Nat} (h48 : ∀ i, i < me → σ.2.1 48 (6 * i) = zI (rn i : Int) ∧ σ.2.1 49 i = zI (fr i : Int) ∧ fr i + rn i ≤ 28800) : zP l Z yX12_rowAt cX12_rowAt 3 (some .int) (rmk 2) [.ref o, zV t, zV u] H (zV (rwA th me rn fr t u)) := by
  refine zM.introI (own := RX12) ⟨by decide, rfl⟩ (Nat.le_of_ble_eq_true rfl) ?_
  intro p e s m args below meth c Q ls hH C hl hret
  have hS : va_S (fun _ => False) s.heap H [] := by rw [hH]; exact va_S.rf
  have hl : lv_has ls 3 [(0, .ref o), (1, zV t), (2, zV u)] := hl
  refine lv_aload_n C.1 C.2.1 dX12_rowAt_0 rfl (lv_at hl 0 rfl) ?_
  refine lv_iload_n C.1 C.2.1 dX12_rowAt_1 rfl (lv_at hl 1 rfl) ?_
  refine z_readV C (As := [zV t]) (rest := []) (c_X12_isMethod l Z hM h43 h44 h45 h46 hfl hme t ht) hM.1 rfl ⟨⟨zw_38_3, zw_1_5, zw_38_0⟩, zd_X12_isMethod⟩ zw_38_1 zw_38_2 ⟨Nat.le_of_ble_eq_true rfl, Nat.le_of_ble_eq_true rfl⟩ ⟨rfl, rfl⟩ rfl hl.1 rfl (Nat.le_of_ble_eq_true rfl) dX12_rowAt_2 ⟨Nat.zero_le _, Nat.zero_le _⟩ hS (fun locs hS => ?_)
  refine y_ifb_eq (tgt := 38) C dX12_rowAt_5 (by decide) (fun h5 => ?_) (fun h5 => ?_)
  · refine lv_iconst (v := zI (-1)) C.1 C.2.1 dX12_rowAt_38 (by decide) ?_
    exact hret _ _ _ _ (zI (-1)) hS ⟨congrArg (fun x : Int => some (zV x)) (by show (-1 : Int) = rwA th me rn fr t u; unfold rwA; first | (rw [if_neg (fun z => absurd (h5.symm.trans z.1) (by decide))]) | (rw [if_neg (fun z => absurd z.2.1 (by omega))]) | (rw [if_neg (fun z => absurd z.2 (by omega))])), rfl⟩ rfl dX12_rowAt_39
  · refine lv_iload_n C.1 C.2.1 dX12_rowAt_8 rfl (lv_at hl 2 rfl) ?_
    refine y_if_lt (tgt := 38) C (a := u) dX12_rowAt_9 (by decide) (by omega) (fun h9 => ?_) (fun h9 => ?_)
    · refine lv_iconst (v := zI (-1)) C.1 C.2.1 dX12_rowAt_38 (by decide) ?_
      exact hret _ _ _ _ (zI (-1)) hS ⟨congrArg (fun x : Int => some (zV x)) (by show (-1 : Int) = rwA th me rn fr t u; unfold rwA; first | (rw [if_neg (fun z => absurd (h5.symm.trans z.1) (by decide))]) | (rw [if_neg (fun z => absurd z.2.1 (by omega))]) | (rw [if_neg (fun z => absurd z.2 (by omega))])), rfl⟩ rfl dX12_rowAt_39
    · have hmd := of_decide_eq_true (show mdA th me t = true from h5)
      obtain ⟨i, rfl⟩ : ∃ i : Nat, t = (i : Int) := Int.eq_ofNat_of_zero_le (by omega)
      obtain ⟨k, rfl⟩ : ∃ k : Nat, u = (k : Int) := Int.eq_ofNat_of_zero_le (by omega)
      obtain ⟨hk1, hk2, hk3⟩ := h48 i (by omega)
      refine lv_iload_n C.1 C.2.1 dX12_rowAt_12 rfl (lv_at hl 2 rfl) ?_
      refine lv_aload_n C.1 C.2.1 dX12_rowAt_13 rfl (lv_at hl 0 rfl) ?_
      refine m_get C hM 48 (v := .ref (ad 48)) (by decide) zw_5_21 rfl rfl dX12_rowAt_14 ?_
      refine lv_bipush (v := zI 6) C.1 C.2.1 dX12_rowAt_17 (by decide) ?_
      refine lv_iload_n C.1 C.2.1 dX12_rowAt_19 rfl (lv_at hl 1 rfl) ?_
      refine y_imulN C (a := 6) (b := i) dX12_rowAt_20 ?_
      refine m_ald C hM 48 (by decide) (6 * i) (t := ((6 * i : Nat) : Int)) rfl (by show _ < 144; omega) dX12_rowAt_21 ?_
      refine z_re (y := zI ((rn i : Nat) : Int)) hk1 ?_
      refine y_icmp_ge (tgt := 38) C (a := ((k : Nat) : Int)) (b := ((rn i : Nat) : Int)) dX12_rowAt_22 (by decide) (by omega) (fun h22 => ?_) (fun h22 => ?_)
      · refine lv_iconst (v := zI (-1)) C.1 C.2.1 dX12_rowAt_38 (by decide) ?_
        exact hret _ _ _ _ (zI (-1)) hS ⟨congrArg (fun x : Int => some (zV x)) (by show (-1 : Int) = rwA th me rn fr (i : Int) (k : Int); unfold rwA; rw [if_neg (fun z => absurd (show (k : Int) < (rn i : Int) from z.2.2) (by omega))]), rfl⟩ rfl dX12_rowAt_39
      · refine lv_iconst (v := zI 3) C.1 C.2.1 dX12_rowAt_25 (by decide) ?_
        refine lv_aload_n C.1 C.2.1 dX12_rowAt_26 rfl (lv_at hl 0 rfl) ?_
        refine m_get C hM 49 (v := .ref (ad 49)) (by decide) zw_5_22 rfl rfl dX12_rowAt_27 ?_
        refine lv_iload_n C.1 C.2.1 dX12_rowAt_30 rfl (lv_at hl 1 rfl) ?_
        refine m_ald C hM 49 (by decide) i (t := ((i : Nat) : Int)) rfl (by show _ < 24; omega) dX12_rowAt_31 ?_
        refine z_re (y := zI ((fr i : Nat) : Int)) hk2 ?_
        refine lv_iload_n C.1 C.2.1 dX12_rowAt_32 rfl (lv_at hl 2 rfl) ?_
        refine y_iaddN C (a := fr i) (b := k) dX12_rowAt_33 ?_
        refine y_imulN C (a := 3) (b := (fr i) + k) dX12_rowAt_34 ?_
        refine lv_goto (tgt := 39) C.1 C.2.1 dX12_rowAt_35 (by decide) ?_
        exact hret _ _ _ _ (zI ((3 * ((fr i) + k) : Nat) : Int)) hS ⟨congrArg (fun x : Int => some (zV x)) (by show (((3 * ((fr i) + k) : Nat) : Int) : Int) = rwA th me rn fr (i : Int) (k : Int); unfold rwA; exact (if_pos ⟨h5, by omega, (show (k : Int) < (rn i : Int) by omega)⟩).symm), rfl⟩ rfl dX12_rowAt_39

theorem rwA_rg {th : Bool} {me : Nat} {rn fr : Nat → Nat} {t u : Int} (h : ∀ i, i < me → fr i + rn i ≤ 28800) : -1 ≤ rwA th me rn fr t u ∧ rwA th me rn fr t u ≤ 86397 := by
  unfold rwA
  split
  · rename_i h1
    have h2 := of_decide_eq_true (show decide (th = true ∧ 0 ≤ t ∧ t < (me : Int)) = true from h1.1)
    have h3 := h t.toNat (by omega)
    omega
  · omega
def cdX (R : Nat → Int) (a : Int) : Int := if a < 0 then -1 else R a.toNat
def fsX (R T : Nat → Int) (a : Int) : Int := if a < 0 then 0 else if R a.toNat = 170 ∨ R a.toNat = 171 then T (R (a.toNat + 1)).toNat else if R a.toNat = 301 then R (a.toNat + 2) else R (a.toNat + 1)

set_option maxHeartbeats 4000000 in
set_option maxRecDepth 20000 in
theorem c_X12_code (l : Launch) (Z : zT) {H : Heap} {o : Nat} {ad : Nat → Nat} {σ : mS} (hM : isM Z H o ad σ) {th : Bool} {fl me po : Nat} (h43 : σ.1 43 = zI (bI th)) (h44 : σ.1 44 = zI (fl : Int)) (h45 : σ.1 45 = zI (me : Int)) (h46 : σ.1 46 = zI (po : Int)) (hfl : fl ≤ 24) (hme : me ≤ 24) (t u : Int) (ht : -2147483648 ≤ t ∧ t ≤ 2147483647) (hu : -2147483648 ≤ u ∧ u ≤ 2147483647) {rn fr : Nat → Nat} (h48 : ∀ i, i < me → σ.2.1 48 (6 * i) = zI (rn i : Int) ∧ σ.2.1 49 i = zI (fr i : Int) ∧ fr i + rn i ≤ 28800) {R : Nat → Int} (h50 : ∀ x, σ.2.1 50 x = zI (R x) ∧ -2147483648 ≤ R x ∧ R x ≤ 2147483647) : zP l Z yX12_code cX12_code 4 (some .int) (rmk 3) [.ref o, zV t, zV u] H (zV (cdX R (rwA th me rn fr t u))) := by
  refine zM.introI (own := RX12) ⟨by decide, rfl⟩ (Nat.le_of_ble_eq_true rfl) ?_
  intro p e s m args below meth c Q ls hH C hl hret
  have hS : va_S (fun _ => False) s.heap H [] := by rw [hH]; exact va_S.rf
  have hl : lv_has ls 4 [(0, .ref o), (1, zV t), (2, zV u)] := hl
  refine lv_aload_n C.1 C.2.1 dX12_code_0 rfl (lv_at hl 0 rfl) ?_
  refine lv_iload_n C.1 C.2.1 dX12_code_1 rfl (lv_at hl 1 rfl) ?_
  refine lv_iload_n C.1 C.2.1 dX12_code_2 rfl (lv_at hl 2 rfl) ?_
  refine z_readV C (As := [zV t, zV u]) (rest := []) (c_X12_rowAt l Z hM h43 h44 h45 h46 hfl hme t u ht hu h48) hM.1 rfl ⟨⟨zw_38_21, zw_1_5, zw_38_18⟩, zd_X12_rowAt⟩ zw_38_19 zw_38_20 ⟨Nat.le_of_ble_eq_true rfl, Nat.le_of_ble_eq_true rfl⟩ ⟨rfl, rfl⟩ rfl hl.1 rfl (Nat.le_of_ble_eq_true rfl) dX12_code_3 ⟨Nat.zero_le _, Nat.zero_le _⟩ hS (fun locs hS => ?_)
  have hrg := rwA_rg (th := th) (t := t) (u := u) (fun i hi => (h48 i hi).2.2)
  generalize rwA th me rn fr t u = ra at *
  refine lv_istore_n (lv' := [(3, zV ra), (0, .ref o), (1, zV t), (2, zV u)]) C.1 C.2.1 dX12_code_6 rfl hl (by decide) rfl (fun ls hl => ?_)
  refine lv_iload_n C.1 C.2.1 dX12_code_7 rfl (lv_at hl 0 rfl) ?_
  refine y_if_ge (tgt := 15) C (a := ra) dX12_code_8 (by decide) (by omega) (fun h8 => ?_) (fun h8 => ?_)
  · obtain ⟨x, rfl⟩ : ∃ x : Nat, ra = (x : Int) := Int.eq_ofNat_of_zero_le (by omega)
    have hR := (h50 x).2
    refine lv_aload_n C.1 C.2.1 dX12_code_15 rfl (lv_at hl 1 rfl) ?_
    refine m_get C hM 50 (v := .ref (ad 50)) (by decide) zw_5_23 rfl rfl dX12_code_16 ?_
    refine lv_iload_n C.1 C.2.1 dX12_code_19 rfl (lv_at hl 0 rfl) ?_
    refine m_ald C hM 50 (by decide) x (t := ((x : Nat) : Int)) rfl (by show _ < 86400; omega) dX12_code_20 ?_
    refine z_re (y := zI (R x)) ((h50 x).1) ?_
    exact hret _ _ _ _ (zI (R x)) hS ⟨congrArg (fun x : Int => some (zV x)) (by show R x = cdX R (x : Int); unfold cdX; exact (if_neg (by omega)).symm), rfl⟩ rfl dX12_code_21
  · refine lv_iconst (v := zI (-1)) C.1 C.2.1 dX12_code_11 (by decide) ?_
    refine lv_goto (tgt := 21) C.1 C.2.1 dX12_code_12 (by decide) ?_
    exact hret _ _ _ _ (zI (-1)) hS ⟨congrArg (fun x : Int => some (zV x)) (by show -1 = cdX R ra; unfold cdX; rw [if_pos (by omega)]), rfl⟩ rfl dX12_code_21

set_option maxHeartbeats 4000000 in
set_option maxRecDepth 20000 in
theorem c_X12_first (l : Launch) (Z : zT) {H : Heap} {o : Nat} {ad : Nat → Nat} {σ : mS} (hM : isM Z H o ad σ) {th : Bool} {fl me po : Nat} (h43 : σ.1 43 = zI (bI th)) (h44 : σ.1 44 = zI (fl : Int)) (h45 : σ.1 45 = zI (me : Int)) (h46 : σ.1 46 = zI (po : Int)) (hfl : fl ≤ 24) (hme : me ≤ 24) (t u : Int) (ht : -2147483648 ≤ t ∧ t ≤ 2147483647) (hu : -2147483648 ≤ u ∧ u ≤ 2147483647) {rn fr : Nat → Nat} (h48 : ∀ i, i < me → σ.2.1 48 (6 * i) = zI (rn i : Int) ∧ σ.2.1 49 i = zI (fr i : Int) ∧ fr i + rn i ≤ 28800) {R : Nat → Int} (h50 : ∀ x, σ.2.1 50 x = zI (R x) ∧ -2147483648 ≤ R x ∧ R x ≤ 2147483647) {T : Nat → Int} (h51 : ∀ x, σ.2.1 51 x = zI (T x)) (hT : ∀ x : Nat, rwA th me rn fr t u = (x : Int) → R x = 170 ∨ R x = 171 → 0 ≤ R (x + 1) ∧ 0 ≤ R (x + 2) ∧ R (x + 1) + 2 * R (x + 2) < 40000) : zP l Z yX12_first cX12_first 5 (some .int) (rmk 3) [.ref o, zV t, zV u] H (zV (fsX R T (rwA th me rn fr t u))) := by
  refine zM.introI (own := RX12) ⟨by decide, rfl⟩ (Nat.le_of_ble_eq_true rfl) ?_
  intro p e s m args below meth c Q ls hH C hl hret
  have hS : va_S (fun _ => False) s.heap H [] := by rw [hH]; exact va_S.rf
  have hl : lv_has ls 5 [(0, .ref o), (1, zV t), (2, zV u)] := hl
  refine lv_aload_n C.1 C.2.1 dX12_first_0 rfl (lv_at hl 0 rfl) ?_
  refine lv_iload_n C.1 C.2.1 dX12_first_1 rfl (lv_at hl 1 rfl) ?_
  refine lv_iload_n C.1 C.2.1 dX12_first_2 rfl (lv_at hl 2 rfl) ?_
  refine z_readV C (As := [zV t, zV u]) (rest := []) (c_X12_rowAt l Z hM h43 h44 h45 h46 hfl hme t u ht hu h48) hM.1 rfl ⟨⟨zw_38_21, zw_1_5, zw_38_18⟩, zd_X12_rowAt⟩ zw_38_19 zw_38_20 ⟨Nat.le_of_ble_eq_true rfl, Nat.le_of_ble_eq_true rfl⟩ ⟨rfl, rfl⟩ rfl hl.1 rfl (Nat.le_of_ble_eq_true rfl) dX12_first_3 ⟨Nat.zero_le _, Nat.zero_le _⟩ hS (fun locs hS => ?_)
  have hrg := rwA_rg (th := th) (t := t) (u := u) (fun i hi => (h48 i hi).2.2)
  generalize rwA th me rn fr t u = ra at *
  refine lv_istore_n (lv' := [(3, zV ra), (0, .ref o), (1, zV t), (2, zV u)]) C.1 C.2.1 dX12_first_6 rfl hl (by decide) rfl (fun ls hl => ?_)
  refine lv_iload_n C.1 C.2.1 dX12_first_7 rfl (lv_at hl 0 rfl) ?_
  refine y_if_ge (tgt := 13) C (a := ra) dX12_first_8 (by decide) (by omega) (fun h8 => ?_) (fun h8 => ?_)
  · obtain ⟨x, rfl⟩ : ∃ x : Nat, ra = (x : Int) := Int.eq_ofNat_of_zero_le (by omega)
    have hR := (h50 x).2
    refine lv_aload_n C.1 C.2.1 dX12_first_13 rfl (lv_at hl 1 rfl) ?_
    refine m_get C hM 50 (v := .ref (ad 50)) (by decide) zw_5_23 rfl rfl dX12_first_14 ?_
    refine lv_iload_n C.1 C.2.1 dX12_first_17 rfl (lv_at hl 0 rfl) ?_
    refine m_ald C hM 50 (by decide) x (t := ((x : Nat) : Int)) rfl (by show _ < 86400; omega) dX12_first_18 ?_
    refine z_re (y := zI (R x)) ((h50 x).1) ?_
    refine lv_istore (lv' := [(4, zV (R x)), (3, zN x), (0, .ref o), (1, zV t), (2, zV u)]) C.1 C.2.1 dX12_first_19 hl (by decide) rfl (fun ls hl => ?_)
    refine lv_iload C.1 C.2.1 dX12_first_21 (lv_at hl 0 rfl) ?_
    refine lv_sipush (v := zI 170) C.1 C.2.1 dX12_first_23 (by decide) ?_
    refine y_icmp_eq (tgt := 37) C (a := R x) (b := 170) dX12_first_26 (by decide) (by omega) (fun h26 => ?_) (fun h26 => ?_)
    · refine lv_aload_n C.1 C.2.1 dX12_first_37 rfl (lv_at hl 2 rfl) ?_
      refine m_get C hM 51 (v := .ref (ad 51)) (by decide) zw_6_0 rfl rfl dX12_first_38 ?_
      refine lv_aload_n C.1 C.2.1 dX12_first_41 rfl (lv_at hl 2 rfl) ?_
      refine m_get C hM 50 (v := .ref (ad 50)) (by decide) zw_5_23 rfl rfl dX12_first_42 ?_
      refine lv_iload_n C.1 C.2.1 dX12_first_45 rfl (lv_at hl 1 rfl) ?_
      refine lv_iconst (v := zI 1) C.1 C.2.1 dX12_first_46 (by decide) ?_
      refine y_iaddN C (a := x) (b := 1) dX12_first_47 ?_
      refine m_ald C hM 50 (by decide) (x + 1) (t := ((x + 1 : Nat) : Int)) rfl (by show _ < 86400; omega) dX12_first_48 ?_
      obtain ⟨hy1, hy2, hy3⟩ := hT x rfl (by omega)
      obtain ⟨y, hy⟩ : ∃ y : Nat, R (x + 1) = (y : Int) := Int.eq_ofNat_of_zero_le hy1
      refine z_re (y := zI ((y : Nat) : Int)) ((h50 (x + 1)).1.trans (zI_c hy)) ?_
      refine m_ald C hM 51 (by decide) y (t := ((y : Nat) : Int)) rfl (by show _ < 40000; omega) dX12_first_49 ?_
      refine z_re (y := zI (T y)) (h51 y) ?_
      exact hret _ _ _ _ (zI (T y)) hS ⟨congrArg (fun x : Int => some (zV x)) (by show T y = fsX R T (x : Int); unfold fsX; rw [if_neg (by omega), Int.toNat_natCast]; rw [if_pos (show R x = 170 ∨ R x = 171 by omega)]; show _ = T (R (x + 1)).toNat; rw [hy]; rfl), rfl⟩ rfl dX12_first_50
    · refine lv_iload C.1 C.2.1 dX12_first_29 (lv_at hl 0 rfl) ?_
      refine lv_sipush (v := zI 171) C.1 C.2.1 dX12_first_31 (by decide) ?_
      refine y_icmp_ne (tgt := 51) C (a := R x) (b := 171) dX12_first_34 (by decide) (by omega) (fun h34 => ?_) (fun h34 => ?_)
      · refine lv_iload C.1 C.2.1 dX12_first_51 (lv_at hl 0 rfl) ?_
        refine lv_sipush (v := zI 301) C.1 C.2.1 dX12_first_53 (by decide) ?_
        refine y_icmp_ne (tgt := 70) C (a := R x) (b := 301) dX12_first_56 (by decide) (by omega) (fun h56 => ?_) (fun h56 => ?_)
        · refine lv_aload_n C.1 C.2.1 dX12_first_70 rfl (lv_at hl 2 rfl) ?_
          refine m_get C hM 50 (v := .ref (ad 50)) (by decide) zw_5_23 rfl rfl dX12_first_71 ?_
          refine lv_iload_n C.1 C.2.1 dX12_first_74 rfl (lv_at hl 1 rfl) ?_
          refine lv_iconst (v := zI 1) C.1 C.2.1 dX12_first_75 (by decide) ?_
          refine y_iaddN C (a := x) (b := 1) dX12_first_76 ?_
          refine m_ald C hM 50 (by decide) (x + 1) (t := ((x + 1 : Nat) : Int)) rfl (by show _ < 86400; omega) dX12_first_77 ?_
          refine z_re (y := zI (R (x + 1))) ((h50 (x + 1)).1) ?_
          exact hret _ _ _ _ (zI (R (x + 1))) hS ⟨congrArg (fun x : Int => some (zV x)) (by show R (x + 1) = fsX R T (x : Int); unfold fsX; rw [if_neg (by omega), Int.toNat_natCast]; rw [if_neg (show ¬ (R x = 170 ∨ R x = 171) by omega)]; exact (if_neg (show ¬ R x = 301 by omega)).symm), rfl⟩ rfl dX12_first_78
        · refine lv_aload_n C.1 C.2.1 dX12_first_59 rfl (lv_at hl 2 rfl) ?_
          refine m_get C hM 50 (v := .ref (ad 50)) (by decide) zw_5_23 rfl rfl dX12_first_60 ?_
          refine lv_iload_n C.1 C.2.1 dX12_first_63 rfl (lv_at hl 1 rfl) ?_
          refine lv_iconst (v := zI 2) C.1 C.2.1 dX12_first_64 (by decide) ?_
          refine y_iaddN C (a := x) (b := 2) dX12_first_65 ?_
          refine m_ald C hM 50 (by decide) (x + 2) (t := ((x + 2 : Nat) : Int)) rfl (by show _ < 86400; omega) dX12_first_66 ?_
          refine z_re (y := zI (R (x + 2))) ((h50 (x + 2)).1) ?_
          refine lv_goto (tgt := 78) C.1 C.2.1 dX12_first_67 (by decide) ?_
          exact hret _ _ _ _ (zI (R (x + 2))) hS ⟨congrArg (fun x : Int => some (zV x)) (by show R (x + 2) = fsX R T (x : Int); unfold fsX; rw [if_neg (by omega), Int.toNat_natCast]; rw [if_neg (show ¬ (R x = 170 ∨ R x = 171) by omega)]; exact (if_pos (show R x = 301 by omega)).symm), rfl⟩ rfl dX12_first_78
      · refine lv_aload_n C.1 C.2.1 dX12_first_37 rfl (lv_at hl 2 rfl) ?_
        refine m_get C hM 51 (v := .ref (ad 51)) (by decide) zw_6_0 rfl rfl dX12_first_38 ?_
        refine lv_aload_n C.1 C.2.1 dX12_first_41 rfl (lv_at hl 2 rfl) ?_
        refine m_get C hM 50 (v := .ref (ad 50)) (by decide) zw_5_23 rfl rfl dX12_first_42 ?_
        refine lv_iload_n C.1 C.2.1 dX12_first_45 rfl (lv_at hl 1 rfl) ?_
        refine lv_iconst (v := zI 1) C.1 C.2.1 dX12_first_46 (by decide) ?_
        refine y_iaddN C (a := x) (b := 1) dX12_first_47 ?_
        refine m_ald C hM 50 (by decide) (x + 1) (t := ((x + 1 : Nat) : Int)) rfl (by show _ < 86400; omega) dX12_first_48 ?_
        obtain ⟨hy1, hy2, hy3⟩ := hT x rfl (by omega)
        obtain ⟨y, hy⟩ : ∃ y : Nat, R (x + 1) = (y : Int) := Int.eq_ofNat_of_zero_le hy1
        refine z_re (y := zI ((y : Nat) : Int)) ((h50 (x + 1)).1.trans (zI_c hy)) ?_
        refine m_ald C hM 51 (by decide) y (t := ((y : Nat) : Int)) rfl (by show _ < 40000; omega) dX12_first_49 ?_
        refine z_re (y := zI (T y)) (h51 y) ?_
        exact hret _ _ _ _ (zI (T y)) hS ⟨congrArg (fun x : Int => some (zV x)) (by show T y = fsX R T (x : Int); unfold fsX; rw [if_neg (by omega), Int.toNat_natCast]; rw [if_pos (show R x = 170 ∨ R x = 171 by omega)]; show _ = T (R (x + 1)).toNat; rw [hy]; rfl), rfl⟩ rfl dX12_first_50
  · refine lv_iconst (v := zI 0) C.1 C.2.1 dX12_first_11 (by decide) ?_
    exact hret _ _ _ _ (zI 0) hS ⟨congrArg (fun x : Int => some (zV x)) (by show (0 : Int) = fsX R T ra; unfold fsX; rw [if_pos (by omega)]), rfl⟩ rfl dX12_first_12

def tgX (R T : Nat → Int) (a w : Int) : Int := if a < 0 then -1 else if (R a.toNat = 170 ∨ R a.toNat = 171) ∧ 0 ≤ w ∧ w ≤ R (a.toNat + 2) then T (R (a.toNat + 1) + 2 * w).toNat else -1

set_option maxHeartbeats 4000000 in
set_option maxRecDepth 20000 in
theorem c_X12_target (l : Launch) (Z : zT) {H : Heap} {o : Nat} {ad : Nat → Nat} {σ : mS} (hM : isM Z H o ad σ) {th : Bool} {fl me po : Nat} (h43 : σ.1 43 = zI (bI th)) (h44 : σ.1 44 = zI (fl : Int)) (h45 : σ.1 45 = zI (me : Int)) (h46 : σ.1 46 = zI (po : Int)) (hfl : fl ≤ 24) (hme : me ≤ 24) (t u w : Int) (ht : -2147483648 ≤ t ∧ t ≤ 2147483647) (hu : -2147483648 ≤ u ∧ u ≤ 2147483647) (hw : -2147483648 ≤ w ∧ w ≤ 2147483647) {rn fr : Nat → Nat} (h48 : ∀ i, i < me → σ.2.1 48 (6 * i) = zI (rn i : Int) ∧ σ.2.1 49 i = zI (fr i : Int) ∧ fr i + rn i ≤ 28800) {R : Nat → Int} (h50 : ∀ x, σ.2.1 50 x = zI (R x) ∧ -2147483648 ≤ R x ∧ R x ≤ 2147483647) {T : Nat → Int} (h51 : ∀ x, σ.2.1 51 x = zI (T x)) (hT : ∀ x : Nat, rwA th me rn fr t u = (x : Int) → R x = 170 ∨ R x = 171 → 0 ≤ R (x + 1) ∧ 0 ≤ R (x + 2) ∧ R (x + 1) + 2 * R (x + 2) < 40000) : zP l Z yX12_target cX12_target 5 (some .int) (rmk 3) [.ref o, zV t, zV u, zV w] H (zV (tgX R T (rwA th me rn fr t u) w)) := by
  refine zM.introI (own := RX12) ⟨by decide, rfl⟩ (Nat.le_of_ble_eq_true rfl) ?_
  intro p e s m args below meth c Q ls hH C hl hret
  have hS : va_S (fun _ => False) s.heap H [] := by rw [hH]; exact va_S.rf
  have hl : lv_has ls 5 [(0, .ref o), (1, zV t), (2, zV u), (3, zV w)] := hl
  refine lv_aload_n C.1 C.2.1 dX12_target_0 rfl (lv_at hl 0 rfl) ?_
  refine lv_iload_n C.1 C.2.1 dX12_target_1 rfl (lv_at hl 1 rfl) ?_
  refine lv_iload_n C.1 C.2.1 dX12_target_2 rfl (lv_at hl 2 rfl) ?_
  refine z_readV C (As := [zV t, zV u]) (rest := []) (c_X12_rowAt l Z hM h43 h44 h45 h46 hfl hme t u ht hu h48) hM.1 rfl ⟨⟨zw_38_21, zw_1_5, zw_38_18⟩, zd_X12_rowAt⟩ zw_38_19 zw_38_20 ⟨Nat.le_of_ble_eq_true rfl, Nat.le_of_ble_eq_true rfl⟩ ⟨rfl, rfl⟩ rfl hl.1 rfl (Nat.le_of_ble_eq_true rfl) dX12_target_3 ⟨Nat.zero_le _, Nat.zero_le _⟩ hS (fun locs hS => ?_)
  have hrg := rwA_rg (th := th) (t := t) (u := u) (fun i hi => (h48 i hi).2.2)
  generalize rwA th me rn fr t u = ra at *
  refine lv_istore (lv' := [(4, zV ra), (0, .ref o), (1, zV t), (2, zV u), (3, zV w)]) C.1 C.2.1 dX12_target_6 hl (by decide) rfl (fun ls hl => ?_)
  refine lv_iload C.1 C.2.1 dX12_target_8 (lv_at hl 0 rfl) ?_
  refine y_if_lt (tgt := 56) C (a := ra) dX12_target_10 (by decide) (by omega) (fun h10 => ?_) (fun h10 => ?_)
  · refine lv_iconst (v := zI (-1)) C.1 C.2.1 dX12_target_56 (by decide) ?_
    exact hret _ _ _ _ (zI (-1)) hS ⟨congrArg (fun x : Int => some (zV x)) (by show (-1 : Int) = tgX R T ra w; unfold tgX; rw [if_pos (by omega)]), rfl⟩ rfl dX12_target_57
  · obtain ⟨x, rfl⟩ : ∃ x : Nat, ra = (x : Int) := Int.eq_ofNat_of_zero_le (by omega)
    have hR := (h50 x).2
    have hR2 := (h50 (x + 2)).2
    refine lv_aload_n C.1 C.2.1 dX12_target_13 rfl (lv_at hl 1 rfl) ?_
    refine m_get C hM 50 (v := .ref (ad 50)) (by decide) zw_5_23 rfl rfl dX12_target_14 ?_
    refine lv_iload C.1 C.2.1 dX12_target_17 (lv_at hl 0 rfl) ?_
    refine m_ald C hM 50 (by decide) x (t := ((x : Nat) : Int)) rfl (by show _ < 86400; omega) dX12_target_19 ?_
    refine z_re (y := zI (R x)) ((h50 x).1) ?_
    refine lv_sipush (v := zI 170) C.1 C.2.1 dX12_target_20 (by decide) ?_
    refine y_icmp_eq (tgt := 39) C (a := R x) (b := 170) dX12_target_23 (by decide) (by omega) (fun h23 => ?_) (fun h23 => ?_)
    · refine lv_iload_n C.1 C.2.1 dX12_target_39 rfl (lv_at hl 4 rfl) ?_
      refine y_if_lt (tgt := 56) C (a := w) dX12_target_40 (by decide) (by omega) (fun h40 => ?_) (fun h40 => ?_)
      · refine lv_iconst (v := zI (-1)) C.1 C.2.1 dX12_target_56 (by decide) ?_
        exact hret _ _ _ _ (zI (-1)) hS ⟨congrArg (fun x : Int => some (zV x)) (by show (-1 : Int) = tgX R T (x : Int) w; unfold tgX; rw [if_neg (by omega), Int.toNat_natCast, if_neg (by omega)]), rfl⟩ rfl dX12_target_57
      · refine lv_iload_n C.1 C.2.1 dX12_target_43 rfl (lv_at hl 4 rfl) ?_
        refine lv_aload_n C.1 C.2.1 dX12_target_44 rfl (lv_at hl 1 rfl) ?_
        refine m_get C hM 50 (v := .ref (ad 50)) (by decide) zw_5_23 rfl rfl dX12_target_45 ?_
        refine lv_iload C.1 C.2.1 dX12_target_48 (lv_at hl 0 rfl) ?_
        refine lv_iconst (v := zI 2) C.1 C.2.1 dX12_target_50 (by decide) ?_
        refine y_iaddN C (a := x) (b := 2) dX12_target_51 ?_
        refine m_ald C hM 50 (by decide) (x + 2) (t := ((x + 2 : Nat) : Int)) rfl (by show _ < 86400; omega) dX12_target_52 ?_
        refine z_re (y := zI (R (x + 2))) ((h50 (x + 2)).1) ?_
        refine y_icmp_le (tgt := 58) C (a := w) (b := R (x + 2)) dX12_target_53 (by decide) (by omega) (fun h53 => ?_) (fun h53 => ?_)
        · obtain ⟨hy1, hy2, hy3⟩ := hT x rfl (by omega)
          obtain ⟨w2, rfl⟩ : ∃ w2 : Nat, w = (w2 : Int) := Int.eq_ofNat_of_zero_le (by omega)
          obtain ⟨y, hy⟩ : ∃ y : Nat, R (x + 1) + 2 * (w2 : Int) = (y : Int) := Int.eq_ofNat_of_zero_le (by omega)
          refine lv_aload_n C.1 C.2.1 dX12_target_58 rfl (lv_at hl 1 rfl) ?_
          refine m_get C hM 51 (v := .ref (ad 51)) (by decide) zw_6_0 rfl rfl dX12_target_59 ?_
          refine lv_aload_n C.1 C.2.1 dX12_target_62 rfl (lv_at hl 1 rfl) ?_
          refine m_get C hM 50 (v := .ref (ad 50)) (by decide) zw_5_23 rfl rfl dX12_target_63 ?_
          refine lv_iload C.1 C.2.1 dX12_target_66 (lv_at hl 0 rfl) ?_
          refine lv_iconst (v := zI 1) C.1 C.2.1 dX12_target_68 (by decide) ?_
          refine y_iaddN C (a := x) (b := 1) dX12_target_69 ?_
          refine m_ald C hM 50 (by decide) (x + 1) (t := ((x + 1 : Nat) : Int)) rfl (by show _ < 86400; omega) dX12_target_70 ?_
          refine z_re (y := zI (R (x + 1))) ((h50 (x + 1)).1) ?_
          refine lv_iconst (v := zI 2) C.1 C.2.1 dX12_target_71 (by decide) ?_
          refine lv_iload_n C.1 C.2.1 dX12_target_72 rfl (lv_at hl 4 rfl) ?_
          refine y_imulN C (a := 2) (b := w2) dX12_target_73 ?_
          refine y_iadd C (a := R (x + 1)) (b := ((2 * w2 : Nat) : Int)) dX12_target_74 ?_
          refine z_re (y := zI ((y : Nat) : Int)) (zI_c hy) ?_
          refine m_ald C hM 51 (by decide) y (t := ((y : Nat) : Int)) rfl (by show _ < 40000; omega) dX12_target_75 ?_
          refine z_re (y := zI (T y)) (h51 y) ?_
          exact hret _ _ _ _ (zI (T y)) hS ⟨congrArg (fun x : Int => some (zV x)) (by show T y = tgX R T (x : Int) (w2 : Int); unfold tgX; rw [if_neg (by omega), Int.toNat_natCast, if_pos ⟨by omega, by omega, by omega⟩, hy]; rfl), rfl⟩ rfl dX12_target_76
        · refine lv_iconst (v := zI (-1)) C.1 C.2.1 dX12_target_56 (by decide) ?_
          exact hret _ _ _ _ (zI (-1)) hS ⟨congrArg (fun x : Int => some (zV x)) (by show (-1 : Int) = tgX R T (x : Int) w; unfold tgX; rw [if_neg (by omega), Int.toNat_natCast, if_neg (by omega)]), rfl⟩ rfl dX12_target_57
    · refine lv_aload_n C.1 C.2.1 dX12_target_26 rfl (lv_at hl 1 rfl) ?_
      refine m_get C hM 50 (v := .ref (ad 50)) (by decide) zw_5_23 rfl rfl dX12_target_27 ?_
      refine lv_iload C.1 C.2.1 dX12_target_30 (lv_at hl 0 rfl) ?_
      refine m_ald C hM 50 (by decide) x (t := ((x : Nat) : Int)) rfl (by show _ < 86400; omega) dX12_target_32 ?_
      refine z_re (y := zI (R x)) ((h50 x).1) ?_
      refine lv_sipush (v := zI 171) C.1 C.2.1 dX12_target_33 (by decide) ?_
      refine y_icmp_ne (tgt := 56) C (a := R x) (b := 171) dX12_target_36 (by decide) (by omega) (fun h36 => ?_) (fun h36 => ?_)
      · refine lv_iconst (v := zI (-1)) C.1 C.2.1 dX12_target_56 (by decide) ?_
        exact hret _ _ _ _ (zI (-1)) hS ⟨congrArg (fun x : Int => some (zV x)) (by show (-1 : Int) = tgX R T (x : Int) w; unfold tgX; rw [if_neg (by omega), Int.toNat_natCast, if_neg (by omega)]), rfl⟩ rfl dX12_target_57
      · refine lv_iload_n C.1 C.2.1 dX12_target_39 rfl (lv_at hl 4 rfl) ?_
        refine y_if_lt (tgt := 56) C (a := w) dX12_target_40 (by decide) (by omega) (fun h40 => ?_) (fun h40 => ?_)
        · refine lv_iconst (v := zI (-1)) C.1 C.2.1 dX12_target_56 (by decide) ?_
          exact hret _ _ _ _ (zI (-1)) hS ⟨congrArg (fun x : Int => some (zV x)) (by show (-1 : Int) = tgX R T (x : Int) w; unfold tgX; rw [if_neg (by omega), Int.toNat_natCast, if_neg (by omega)]), rfl⟩ rfl dX12_target_57
        · refine lv_iload_n C.1 C.2.1 dX12_target_43 rfl (lv_at hl 4 rfl) ?_
          refine lv_aload_n C.1 C.2.1 dX12_target_44 rfl (lv_at hl 1 rfl) ?_
          refine m_get C hM 50 (v := .ref (ad 50)) (by decide) zw_5_23 rfl rfl dX12_target_45 ?_
          refine lv_iload C.1 C.2.1 dX12_target_48 (lv_at hl 0 rfl) ?_
          refine lv_iconst (v := zI 2) C.1 C.2.1 dX12_target_50 (by decide) ?_
          refine y_iaddN C (a := x) (b := 2) dX12_target_51 ?_
          refine m_ald C hM 50 (by decide) (x + 2) (t := ((x + 2 : Nat) : Int)) rfl (by show _ < 86400; omega) dX12_target_52 ?_
          refine z_re (y := zI (R (x + 2))) ((h50 (x + 2)).1) ?_
          refine y_icmp_le (tgt := 58) C (a := w) (b := R (x + 2)) dX12_target_53 (by decide) (by omega) (fun h53 => ?_) (fun h53 => ?_)
          · obtain ⟨hy1, hy2, hy3⟩ := hT x rfl (by omega)
            obtain ⟨w2, rfl⟩ : ∃ w2 : Nat, w = (w2 : Int) := Int.eq_ofNat_of_zero_le (by omega)
            obtain ⟨y, hy⟩ : ∃ y : Nat, R (x + 1) + 2 * (w2 : Int) = (y : Int) := Int.eq_ofNat_of_zero_le (by omega)
            refine lv_aload_n C.1 C.2.1 dX12_target_58 rfl (lv_at hl 1 rfl) ?_
            refine m_get C hM 51 (v := .ref (ad 51)) (by decide) zw_6_0 rfl rfl dX12_target_59 ?_
            refine lv_aload_n C.1 C.2.1 dX12_target_62 rfl (lv_at hl 1 rfl) ?_
            refine m_get C hM 50 (v := .ref (ad 50)) (by decide) zw_5_23 rfl rfl dX12_target_63 ?_
            refine lv_iload C.1 C.2.1 dX12_target_66 (lv_at hl 0 rfl) ?_
            refine lv_iconst (v := zI 1) C.1 C.2.1 dX12_target_68 (by decide) ?_
            refine y_iaddN C (a := x) (b := 1) dX12_target_69 ?_
            refine m_ald C hM 50 (by decide) (x + 1) (t := ((x + 1 : Nat) : Int)) rfl (by show _ < 86400; omega) dX12_target_70 ?_
            refine z_re (y := zI (R (x + 1))) ((h50 (x + 1)).1) ?_
            refine lv_iconst (v := zI 2) C.1 C.2.1 dX12_target_71 (by decide) ?_
            refine lv_iload_n C.1 C.2.1 dX12_target_72 rfl (lv_at hl 4 rfl) ?_
            refine y_imulN C (a := 2) (b := w2) dX12_target_73 ?_
            refine y_iadd C (a := R (x + 1)) (b := ((2 * w2 : Nat) : Int)) dX12_target_74 ?_
            refine z_re (y := zI ((y : Nat) : Int)) (zI_c hy) ?_
            refine m_ald C hM 51 (by decide) y (t := ((y : Nat) : Int)) rfl (by show _ < 40000; omega) dX12_target_75 ?_
            refine z_re (y := zI (T y)) (h51 y) ?_
            exact hret _ _ _ _ (zI (T y)) hS ⟨congrArg (fun x : Int => some (zV x)) (by show T y = tgX R T (x : Int) (w2 : Int); unfold tgX; rw [if_neg (by omega), Int.toNat_natCast, if_pos ⟨by omega, by omega, by omega⟩, hy]; rfl), rfl⟩ rfl dX12_target_76
          · refine lv_iconst (v := zI (-1)) C.1 C.2.1 dX12_target_56 (by decide) ?_
            exact hret _ _ _ _ (zI (-1)) hS ⟨congrArg (fun x : Int => some (zV x)) (by show (-1 : Int) = tgX R T (x : Int) w; unfold tgX; rw [if_neg (by omega), Int.toNat_natCast, if_neg (by omega)]), rfl⟩ rfl dX12_target_57
