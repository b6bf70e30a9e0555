/-! the component: what an instruction is and tells -/
def isLL (k : Nat) : Bool := decide (k = 22 ∨ k = 55)
def isLo (k : Nat) : Bool := decide (k = 21 ∨ k = 25 ∨ k = 54 ∨ k = 58 ∨ k = 132 ∨ k = 22 ∨ k = 55)
def isJp (k : Nat) : Bool := decide ((153 ≤ k ∧ k ≤ 167) ∨ k = 198 ∨ k = 199)
def isSw (k : Nat) : Bool := decide (k = 170 ∨ k = 171)
def isFd (k : Nat) : Bool := decide (k = 178 ∨ k = 179)

set_option maxHeartbeats 4000000 in
set_option maxRecDepth 20000 in
theorem c_X3_isLongLocal (l : Launch) (Z : zT) {H : Heap} (k : Nat) (hk : k < 1000) : zP l Z yX3_isLongLocal cX3_isLongLocal 1 (some .boolean) (rmk 1) [zN k] H (zV (bI (isLL k))) := by
  refine zM.introI (own := RX3) ⟨by decide, rfl⟩ (Nat.le_of_ble_eq_true rfl) ?_
  intro p e s m args below meth c Q ls hH C hl hret
  have hS : va_S (fun _ => False) s.heap H [] := by rw [hH]; exact va_S.rf
  have hl : lv_has ls 1 [(0, zN k)] := hl
  refine lv_iload_n C.1 C.2.1 dX3_isLongLocal_0 rfl (lv_at hl 0 rfl) ?_
  refine lv_bipush (v := zI 22) C.1 C.2.1 dX3_isLongLocal_1 (by decide) ?_
  refine y_icmp_eq (tgt := 12) C (a := ((k : Nat) : Int)) (b := 22) dX3_isLongLocal_3 (by decide) (by omega) (fun h3 => ?_) (fun h3 => ?_)
  · refine lv_iconst (v := zI 1) C.1 C.2.1 dX3_isLongLocal_12 (by decide) ?_
    refine lv_goto (tgt := 17) C.1 C.2.1 dX3_isLongLocal_13 (by decide) ?_
    exact hret _ _ _ _ (zI 1) hS ⟨congrArg (fun x : Int => some (zV x)) (bI_1 (decide_eq_true (by omega))), rfl⟩ rfl dX3_isLongLocal_17
  · refine lv_iload_n C.1 C.2.1 dX3_isLongLocal_6 rfl (lv_at hl 0 rfl) ?_
    refine lv_bipush (v := zI 55) C.1 C.2.1 dX3_isLongLocal_7 (by decide) ?_
    refine y_icmp_ne (tgt := 16) C (a := ((k : Nat) : Int)) (b := 55) dX3_isLongLocal_9 (by decide) (by omega) (fun h9 => ?_) (fun h9 => ?_)
    · refine lv_iconst (v := zI 0) C.1 C.2.1 dX3_isLongLocal_16 (by decide) ?_
      exact hret _ _ _ _ (zI 0) hS ⟨congrArg (fun x : Int => some (zV x)) (bI_0 (decide_eq_false (by omega))), rfl⟩ rfl dX3_isLongLocal_17
    · refine lv_iconst (v := zI 1) C.1 C.2.1 dX3_isLongLocal_12 (by decide) ?_
      refine lv_goto (tgt := 17) C.1 C.2.1 dX3_isLongLocal_13 (by decide) ?_
      exact hret _ _ _ _ (zI 1) hS ⟨congrArg (fun x : Int => some (zV x)) (bI_1 (decide_eq_true (by omega))), rfl⟩ rfl dX3_isLongLocal_17

set_option maxHeartbeats 4000000 in
set_option maxRecDepth 20000 in
theorem c_X3_isJump (l : Launch) (Z : zT) {H : Heap} (k : Nat) (hk : k < 1000) : zP l Z yX3_isJump cX3_isJump 1 (some .boolean) (rmk 1) [zN k] H (zV (bI (isJp k))) := by
  refine zM.introI (own := RX3) ⟨by decide, rfl⟩ (Nat.le_of_ble_eq_true rfl) ?_
  intro p e s m args below meth c Q ls hH C hl hret
  have hS : va_S (fun _ => False) s.heap H [] := by rw [hH]; exact va_S.rf
  have hl : lv_has ls 1 [(0, zN k)] := hl
  refine lv_iload_n C.1 C.2.1 dX3_isJump_0 rfl (lv_at hl 0 rfl) ?_
  refine lv_sipush (v := zI 153) C.1 C.2.1 dX3_isJump_1 (by decide) ?_
  refine y_icmp_lt (tgt := 14) C (a := ((k : Nat) : Int)) (b := 153) dX3_isJump_4 (by decide) (by omega) (fun h4 => ?_) (fun h4 => ?_)
  · refine lv_iload_n C.1 C.2.1 dX3_isJump_14 rfl (lv_at hl 0 rfl) ?_
    refine lv_sipush (v := zI 198) C.1 C.2.1 dX3_isJump_15 (by decide) ?_
    refine y_icmp_eq (tgt := 28) C (a := ((k : Nat) : Int)) (b := 198) dX3_isJump_18 (by decide) (by omega) (fun h18 => ?_) (fun h18 => ?_)
    · refine lv_iconst (v := zI 1) C.1 C.2.1 dX3_isJump_28 (by decide) ?_
      refine lv_goto (tgt := 33) C.1 C.2.1 dX3_isJump_29 (by decide) ?_
      exact hret _ _ _ _ (zI 1) hS ⟨congrArg (fun x : Int => some (zV x)) (bI_1 (decide_eq_true (by omega))), rfl⟩ rfl dX3_isJump_33
    · refine lv_iload_n C.1 C.2.1 dX3_isJump_21 rfl (lv_at hl 0 rfl) ?_
      refine lv_sipush (v := zI 199) C.1 C.2.1 dX3_isJump_22 (by decide) ?_
      refine y_icmp_ne (tgt := 32) C (a := ((k : Nat) : Int)) (b := 199) dX3_isJump_25 (by decide) (by omega) (fun h25 => ?_) (fun h25 => ?_)
      · refine lv_iconst (v := zI 0) C.1 C.2.1 dX3_isJump_32 (by decide) ?_
        exact hret _ _ _ _ (zI 0) hS ⟨congrArg (fun x : Int => some (zV x)) (bI_0 (decide_eq_false (by omega))), rfl⟩ rfl dX3_isJump_33
      · refine lv_iconst (v := zI 1) C.1 C.2.1 dX3_isJump_28 (by decide) ?_
        refine lv_goto (tgt := 33) C.1 C.2.1 dX3_isJump_29 (by decide) ?_
        exact hret _ _ _ _ (zI 1) hS ⟨congrArg (fun x : Int => some (zV x)) (bI_1 (decide_eq_true (by omega))), rfl⟩ rfl dX3_isJump_33
  · refine lv_iload_n C.1 C.2.1 dX3_isJump_7 rfl (lv_at hl 0 rfl) ?_
    refine lv_sipush (v := zI 167) C.1 C.2.1 dX3_isJump_8 (by decide) ?_
    refine y_icmp_le (tgt := 28) C (a := ((k : Nat) : Int)) (b := 167) dX3_isJump_11 (by decide) (by omega) (fun h11 => ?_) (fun h11 => ?_)
    · refine lv_iconst (v := zI 1) C.1 C.2.1 dX3_isJump_28 (by decide) ?_
      refine lv_goto (tgt := 33) C.1 C.2.1 dX3_isJump_29 (by decide) ?_
      exact hret _ _ _ _ (zI 1) hS ⟨congrArg (fun x : Int => some (zV x)) (bI_1 (decide_eq_true (by omega))), rfl⟩ rfl dX3_isJump_33
    · refine lv_iload_n C.1 C.2.1 dX3_isJump_14 rfl (lv_at hl 0 rfl) ?_
      refine lv_sipush (v := zI 198) C.1 C.2.1 dX3_isJump_15 (by decide) ?_
      refine y_icmp_eq (tgt := 28) C (a := ((k : Nat) : Int)) (b := 198) dX3_isJump_18 (by decide) (by omega) (fun h18 => ?_) (fun h18 => ?_)
      · refine lv_iconst (v := zI 1) C.1 C.2.1 dX3_isJump_28 (by decide) ?_
        refine lv_goto (tgt := 33) C.1 C.2.1 dX3_isJump_29 (by decide) ?_
        exact hret _ _ _ _ (zI 1) hS ⟨congrArg (fun x : Int => some (zV x)) (bI_1 (decide_eq_true (by omega))), rfl⟩ rfl dX3_isJump_33
      · refine lv_iload_n C.1 C.2.1 dX3_isJump_21 rfl (lv_at hl 0 rfl) ?_
        refine lv_sipush (v := zI 199) C.1 C.2.1 dX3_isJump_22 (by decide) ?_
        refine y_icmp_ne (tgt := 32) C (a := ((k : Nat) : Int)) (b := 199) dX3_isJump_25 (by decide) (by omega) (fun h25 => ?_) (fun h25 => ?_)
        · refine lv_iconst (v := zI 0) C.1 C.2.1 dX3_isJump_32 (by decide) ?_
          exact hret _ _ _ _ (zI 0) hS ⟨congrArg (fun x : Int => some (zV x)) (bI_0 (decide_eq_false (by omega))), rfl⟩ rfl dX3_isJump_33
        · refine lv_iconst (v := zI 1) C.1 C.2.1 dX3_isJump_28 (by decide) ?_
          refine lv_goto (tgt := 33) C.1 C.2.1 dX3_isJump_29 (by decide) ?_
          exact hret _ _ _ _ (zI 1) hS ⟨congrArg (fun x : Int => some (zV x)) (bI_1 (decide_eq_true (by omega))), rfl⟩ rfl dX3_isJump_33

set_option maxHeartbeats 4000000 in
set_option maxRecDepth 20000 in
theorem c_X3_isSwitch (l : Launch) (Z : zT) {H : Heap} (k : Nat) (hk : k < 1000) : zP l Z yX3_isSwitch cX3_isSwitch 1 (some .boolean) (rmk 1) [zN k] H (zV (bI (isSw k))) := by
  refine zM.introI (own := RX3) ⟨by decide, rfl⟩ (Nat.le_of_ble_eq_true rfl) ?_
  intro p e s m args below meth c Q ls hH C hl hret
  have hS : va_S (fun _ => False) s.heap H [] := by rw [hH]; exact va_S.rf
  have hl : lv_has ls 1 [(0, zN k)] := hl
  refine lv_iload_n C.1 C.2.1 dX3_isSwitch_0 rfl (lv_at hl 0 rfl) ?_
  refine lv_sipush (v := zI 170) C.1 C.2.1 dX3_isSwitch_1 (by decide) ?_
  refine y_icmp_eq (tgt := 14) C (a := ((k : Nat) : Int)) (b := 170) dX3_isSwitch_4 (by decide) (by omega) (fun h4 => ?_) (fun h4 => ?_)
  · refine lv_iconst (v := zI 1) C.1 C.2.1 dX3_isSwitch_14 (by decide) ?_
    refine lv_goto (tgt := 19) C.1 C.2.1 dX3_isSwitch_15 (by decide) ?_
    exact hret _ _ _ _ (zI 1) hS ⟨congrArg (fun x : Int => some (zV x)) (bI_1 (decide_eq_true (by omega))), rfl⟩ rfl dX3_isSwitch_19
  · refine lv_iload_n C.1 C.2.1 dX3_isSwitch_7 rfl (lv_at hl 0 rfl) ?_
    refine lv_sipush (v := zI 171) C.1 C.2.1 dX3_isSwitch_8 (by decide) ?_
    refine y_icmp_ne (tgt := 18) C (a := ((k : Nat) : Int)) (b := 171) dX3_isSwitch_11 (by decide) (by omega) (fun h11 => ?_) (fun h11 => ?_)
    · refine lv_iconst (v := zI 0) C.1 C.2.1 dX3_isSwitch_18 (by decide) ?_
      exact hret _ _ _ _ (zI 0) hS ⟨congrArg (fun x : Int => some (zV x)) (bI_0 (decide_eq_false (by omega))), rfl⟩ rfl dX3_isSwitch_19
    · refine lv_iconst (v := zI 1) C.1 C.2.1 dX3_isSwitch_14 (by decide) ?_
      refine lv_goto (tgt := 19) C.1 C.2.1 dX3_isSwitch_15 (by decide) ?_
      exact hret _ _ _ _ (zI 1) hS ⟨congrArg (fun x : Int => some (zV x)) (bI_1 (decide_eq_true (by omega))), rfl⟩ rfl dX3_isSwitch_19

set_option maxHeartbeats 4000000 in
set_option maxRecDepth 20000 in
theorem c_X3_isField (l : Launch) (Z : zT) {H : Heap} (k : Nat) (hk : k < 1000) : zP l Z yX3_isField cX3_isField 1 (some .boolean) (rmk 1) [zN k] H (zV (bI (isFd k))) := by
  refine zM.introI (own := RX3) ⟨by decide, rfl⟩ (Nat.le_of_ble_eq_true rfl) ?_
  intro p e s m args below meth c Q ls hH C hl hret
  have hS : va_S (fun _ => False) s.heap H [] := by rw [hH]; exact va_S.rf
  have hl : lv_has ls 1 [(0, zN k)] := hl
  refine lv_iload_n C.1 C.2.1 dX3_isField_0 rfl (lv_at hl 0 rfl) ?_
  refine lv_sipush (v := zI 178) C.1 C.2.1 dX3_isField_1 (by decide) ?_
  refine y_icmp_eq (tgt := 14) C (a := ((k : Nat) : Int)) (b := 178) dX3_isField_4 (by decide) (by omega) (fun h4 => ?_) (fun h4 => ?_)
  · refine lv_iconst (v := zI 1) C.1 C.2.1 dX3_isField_14 (by decide) ?_
    refine lv_goto (tgt := 19) C.1 C.2.1 dX3_isField_15 (by decide) ?_
    exact hret _ _ _ _ (zI 1) hS ⟨congrArg (fun x : Int => some (zV x)) (bI_1 (decide_eq_true (by omega))), rfl⟩ rfl dX3_isField_19
  · refine lv_iload_n C.1 C.2.1 dX3_isField_7 rfl (lv_at hl 0 rfl) ?_
    refine lv_sipush (v := zI 179) C.1 C.2.1 dX3_isField_8 (by decide) ?_
    refine y_icmp_ne (tgt := 18) C (a := ((k : Nat) : Int)) (b := 179) dX3_isField_11 (by decide) (by omega) (fun h11 => ?_) (fun h11 => ?_)
    · refine lv_iconst (v := zI 0) C.1 C.2.1 dX3_isField_18 (by decide) ?_
      exact hret _ _ _ _ (zI 0) hS ⟨congrArg (fun x : Int => some (zV x)) (bI_0 (decide_eq_false (by omega))), rfl⟩ rfl dX3_isField_19
    · refine lv_iconst (v := zI 1) C.1 C.2.1 dX3_isField_14 (by decide) ?_
      refine lv_goto (tgt := 19) C.1 C.2.1 dX3_isField_15 (by decide) ?_
      exact hret _ _ _ _ (zI 1) hS ⟨congrArg (fun x : Int => some (zV x)) (bI_1 (decide_eq_true (by omega))), rfl⟩ rfl dX3_isField_19

set_option maxHeartbeats 4000000 in
set_option maxRecDepth 20000 in
theorem c_X3_isLocal (l : Launch) (Z : zT) {H : Heap} (k : Nat) (hk : k < 1000) : zP l Z yX3_isLocal cX3_isLocal 1 (some .boolean) (rmk 2) [zN k] H (zV (bI (isLo k))) := by
  refine zM.introI (own := RX3) ⟨by decide, rfl⟩ (Nat.le_of_ble_eq_true rfl) ?_
  intro p e s m args below meth c Q ls hH C hl hret
  have hS : va_S (fun _ => False) s.heap H [] := by rw [hH]; exact va_S.rf
  have hl : lv_has ls 1 [(0, zN k)] := hl
  refine lv_iload_n C.1 C.2.1 dX3_isLocal_0 rfl (lv_at hl 0 rfl) ?_
  refine lv_bipush (v := zI 21) C.1 C.2.1 dX3_isLocal_1 (by decide) ?_
  refine y_icmp_eq (tgt := 38) C (a := ((k : Nat) : Int)) (b := 21) dX3_isLocal_3 (by decide) (by omega) (fun h3 => ?_) (fun h3 => ?_)
  · refine lv_iconst (v := zI 1) C.1 C.2.1 dX3_isLocal_38 (by decide) ?_
    refine lv_goto (tgt := 43) C.1 C.2.1 dX3_isLocal_39 (by decide) ?_
    exact hret _ _ _ _ (zI 1) hS ⟨congrArg (fun x : Int => some (zV x)) (bI_1 (decide_eq_true (by omega))), rfl⟩ rfl dX3_isLocal_43
  · refine lv_iload_n C.1 C.2.1 dX3_isLocal_6 rfl (lv_at hl 0 rfl) ?_
    refine lv_bipush (v := zI 25) C.1 C.2.1 dX3_isLocal_7 (by decide) ?_
    refine y_icmp_eq (tgt := 38) C (a := ((k : Nat) : Int)) (b := 25) dX3_isLocal_9 (by decide) (by omega) (fun h9 => ?_) (fun h9 => ?_)
    · refine lv_iconst (v := zI 1) C.1 C.2.1 dX3_isLocal_38 (by decide) ?_
      refine lv_goto (tgt := 43) C.1 C.2.1 dX3_isLocal_39 (by decide) ?_
      exact hret _ _ _ _ (zI 1) hS ⟨congrArg (fun x : Int => some (zV x)) (bI_1 (decide_eq_true (by omega))), rfl⟩ rfl dX3_isLocal_43
    · refine lv_iload_n C.1 C.2.1 dX3_isLocal_12 rfl (lv_at hl 0 rfl) ?_
      refine lv_bipush (v := zI 54) C.1 C.2.1 dX3_isLocal_13 (by decide) ?_
      refine y_icmp_eq (tgt := 38) C (a := ((k : Nat) : Int)) (b := 54) dX3_isLocal_15 (by decide) (by omega) (fun h15 => ?_) (fun h15 => ?_)
      · refine lv_iconst (v := zI 1) C.1 C.2.1 dX3_isLocal_38 (by decide) ?_
        refine lv_goto (tgt := 43) C.1 C.2.1 dX3_isLocal_39 (by decide) ?_
        exact hret _ _ _ _ (zI 1) hS ⟨congrArg (fun x : Int => some (zV x)) (bI_1 (decide_eq_true (by omega))), rfl⟩ rfl dX3_isLocal_43
      · refine lv_iload_n C.1 C.2.1 dX3_isLocal_18 rfl (lv_at hl 0 rfl) ?_
        refine lv_bipush (v := zI 58) C.1 C.2.1 dX3_isLocal_19 (by decide) ?_
        refine y_icmp_eq (tgt := 38) C (a := ((k : Nat) : Int)) (b := 58) dX3_isLocal_21 (by decide) (by omega) (fun h21 => ?_) (fun h21 => ?_)
        · refine lv_iconst (v := zI 1) C.1 C.2.1 dX3_isLocal_38 (by decide) ?_
          refine lv_goto (tgt := 43) C.1 C.2.1 dX3_isLocal_39 (by decide) ?_
          exact hret _ _ _ _ (zI 1) hS ⟨congrArg (fun x : Int => some (zV x)) (bI_1 (decide_eq_true (by omega))), rfl⟩ rfl dX3_isLocal_43
        · refine lv_iload_n C.1 C.2.1 dX3_isLocal_24 rfl (lv_at hl 0 rfl) ?_
          refine lv_sipush (v := zI 132) C.1 C.2.1 dX3_isLocal_25 (by decide) ?_
          refine y_icmp_eq (tgt := 38) C (a := ((k : Nat) : Int)) (b := 132) dX3_isLocal_28 (by decide) (by omega) (fun h28 => ?_) (fun h28 => ?_)
          · refine lv_iconst (v := zI 1) C.1 C.2.1 dX3_isLocal_38 (by decide) ?_
            refine lv_goto (tgt := 43) C.1 C.2.1 dX3_isLocal_39 (by decide) ?_
            exact hret _ _ _ _ (zI 1) hS ⟨congrArg (fun x : Int => some (zV x)) (bI_1 (decide_eq_true (by omega))), rfl⟩ rfl dX3_isLocal_43
          · refine lv_iload_n C.1 C.2.1 dX3_isLocal_31 rfl (lv_at hl 0 rfl) ?_
            refine z_readS C (As := [zN k]) (rest := []) (c_X3_isLongLocal l Z k hk) ⟨⟨zw_23_8, zw_20_22, zw_23_6⟩, zd_X3_isLongLocal⟩ zw_23_7 ⟨Nat.le_of_ble_eq_true rfl, Nat.le_of_ble_eq_true rfl⟩ ⟨rfl, rfl⟩ rfl hl.1 rfl (Nat.le_of_ble_eq_true rfl) dX3_isLocal_32 ⟨Nat.zero_le _, Nat.zero_le _⟩ hS (fun locs hS => ?_)
            refine y_ifb_eq (tgt := 42) C dX3_isLocal_35 (by decide) (fun h35 => ?_) (fun h35 => ?_)
            · have h35 := of_decide_eq_false h35
              refine lv_iconst (v := zI 0) C.1 C.2.1 dX3_isLocal_42 (by decide) ?_
              exact hret _ _ _ _ (zI 0) hS ⟨congrArg (fun x : Int => some (zV x)) (bI_0 (decide_eq_false (by omega))), rfl⟩ rfl dX3_isLocal_43
            · have h35 := of_decide_eq_true h35
              refine lv_iconst (v := zI 1) C.1 C.2.1 dX3_isLocal_38 (by decide) ?_
              refine lv_goto (tgt := 43) C.1 C.2.1 dX3_isLocal_39 (by decide) ?_
              exact hret _ _ _ _ (zI 1) hS ⟨congrArg (fun x : Int => some (zV x)) (bI_1 (decide_eq_true (by omega))), rfl⟩ rfl dX3_isLocal_43

set_option maxHeartbeats 4000000 in
set_option maxRecDepth 20000 in
theorem c_X3_kindAt (l : Launch) (Z : zT) {H : Heap} {ad : Nat → Nat} {τ : mS} {X : List (Nat × va_E)} (hM : isC Z H ad τ X) {F : Nat → Nat} {n : Nat} (hB : cSrc τ F n) {k : Nat} (hk : k + 1 < n) : zP l Z yX3_kindAt cX3_kindAt 3 (some .int) (rmk 2) [.ref (ad 1), zN k] H (zN (kdC (ocC F k))) := by
  have hn := hB.2.2.2
  have hFk := hB.1 k
  have hFk1 := hB.1 (k + 1)
  refine zM.introI (own := RX3) ⟨by decide, rfl⟩ (Nat.le_of_ble_eq_true rfl) ?_
  intro p e s m args below meth c Q ls hH C hl hret
  have hS : va_S (fun _ => False) s.heap H [] := by rw [hH]; exact va_S.rf
  have hl : lv_has ls 3 [(0, .ref (ad 1)), (1, zN k)] := hl
  refine lv_aload_n C.1 C.2.1 dX3_kindAt_0 rfl (lv_at hl 0 rfl) ?_
  refine lv_iload_n C.1 C.2.1 dX3_kindAt_1 rfl (lv_at hl 1 rfl) ?_
  refine z_readV C (As := [zN k]) (rest := []) (c_u1 l Z hM hB k rfl (by omega)) hM.byt rfl ⟨⟨zw_9_12, zw_2_15, zw_21_1⟩, zd_X1_u1⟩ zw_9_10 zw_9_11 ⟨Nat.le_of_ble_eq_true rfl, Nat.le_of_ble_eq_true rfl⟩ ⟨rfl, rfl⟩ rfl hl.1 rfl (Nat.le_of_ble_eq_true rfl) dX3_kindAt_2 ⟨Nat.zero_le _, Nat.zero_le _⟩ hS (fun locs hS => ?_)
  have := hB.1 k
  refine lv_sipush (v := zI 196) C.1 C.2.1 dX3_kindAt_5 (by decide) ?_
  refine y_icmp_ne (tgt := 21) C (a := ((F k : Nat) : Int)) (b := 196) dX3_kindAt_8 (by decide) (by omega) (fun h8 => ?_) (fun h8 => ?_)
  · have hoc : ocC F k = F k := if_neg (by omega)
    refine lv_aload_n C.1 C.2.1 dX3_kindAt_21 rfl (lv_at hl 0 rfl) ?_
    refine lv_iload_n C.1 C.2.1 dX3_kindAt_22 rfl (lv_at hl 1 rfl) ?_
    refine z_readV C (As := [zN k]) (rest := []) (c_u1 l Z hM hB k rfl (by omega)) hM.byt rfl ⟨⟨zw_9_12, zw_2_15, zw_21_1⟩, zd_X1_u1⟩ zw_9_10 zw_9_11 ⟨Nat.le_of_ble_eq_true rfl, Nat.le_of_ble_eq_true rfl⟩ ⟨rfl, rfl⟩ rfl hl.1 rfl (Nat.le_of_ble_eq_true rfl) dX3_kindAt_23 ⟨Nat.zero_le _, Nat.zero_le _⟩ hS (fun locs hS => ?_)
    have := hB.1 k
    refine lv_istore_n (lv' := [(2, zN (F k)), (0, .ref (ad 1)), (1, zN k)]) C.1 C.2.1 dX3_kindAt_26 rfl hl (by decide) rfl (fun ls hl => ?_)
    refine lv_iload_n C.1 C.2.1 dX3_kindAt_27 rfl (lv_at hl 0 rfl) ?_
    refine lv_iconst (v := zI 2) C.1 C.2.1 dX3_kindAt_28 (by decide) ?_
    refine y_icmp_lt (tgt := 38) C (a := ((F k : Nat) : Int)) (b := 2) dX3_kindAt_29 (by decide) (by omega) (fun h29 => ?_) (fun h29 => ?_)
    · refine lv_iload_n C.1 C.2.1 dX3_kindAt_38 rfl (lv_at hl 0 rfl) ?_
      refine lv_bipush (v := zI 16) C.1 C.2.1 dX3_kindAt_39 (by decide) ?_
      refine y_icmp_lt (tgt := 54) C (a := ((F k : Nat) : Int)) (b := 16) dX3_kindAt_41 (by decide) (by omega) (fun h41 => ?_) (fun h41 => ?_)
      · refine lv_iload_n C.1 C.2.1 dX3_kindAt_54 rfl (lv_at hl 0 rfl) ?_
        refine lv_bipush (v := zI 9) C.1 C.2.1 dX3_kindAt_55 (by decide) ?_
        refine y_icmp_eq (tgt := 72) C (a := ((F k : Nat) : Int)) (b := 9) dX3_kindAt_57 (by decide) (by omega) (fun h57 => ?_) (fun h57 => ?_)
        · refine lv_sipush (v := zI 301) C.1 C.2.1 dX3_kindAt_72 (by decide) ?_
          exact hret _ _ _ _ (zI 301) hS ⟨congrArg (fun x : Int => some (zV x)) (by unfold kdC; (repeat' split) <;> omega), rfl⟩ rfl dX3_kindAt_75
        · refine lv_iload_n C.1 C.2.1 dX3_kindAt_60 rfl (lv_at hl 0 rfl) ?_
          refine lv_bipush (v := zI 10) C.1 C.2.1 dX3_kindAt_61 (by decide) ?_
          refine y_icmp_eq (tgt := 72) C (a := ((F k : Nat) : Int)) (b := 10) dX3_kindAt_63 (by decide) (by omega) (fun h63 => ?_) (fun h63 => ?_)
          · refine lv_sipush (v := zI 301) C.1 C.2.1 dX3_kindAt_72 (by decide) ?_
            exact hret _ _ _ _ (zI 301) hS ⟨congrArg (fun x : Int => some (zV x)) (by unfold kdC; (repeat' split) <;> omega), rfl⟩ rfl dX3_kindAt_75
          · refine lv_iload_n C.1 C.2.1 dX3_kindAt_66 rfl (lv_at hl 0 rfl) ?_
            refine lv_bipush (v := zI 20) C.1 C.2.1 dX3_kindAt_67 (by decide) ?_
            refine y_icmp_ne (tgt := 76) C (a := ((F k : Nat) : Int)) (b := 20) dX3_kindAt_69 (by decide) (by omega) (fun h69 => ?_) (fun h69 => ?_)
            · refine lv_iload_n C.1 C.2.1 dX3_kindAt_76 rfl (lv_at hl 0 rfl) ?_
              refine lv_bipush (v := zI 26) C.1 C.2.1 dX3_kindAt_77 (by decide) ?_
              refine y_icmp_lt (tgt := 98) C (a := ((F k : Nat) : Int)) (b := 26) dX3_kindAt_79 (by decide) (by omega) (fun h79 => ?_) (fun h79 => ?_)
              · refine lv_iload_n C.1 C.2.1 dX3_kindAt_98 rfl (lv_at hl 0 rfl) ?_
                refine lv_bipush (v := zI 59) C.1 C.2.1 dX3_kindAt_99 (by decide) ?_
                refine y_icmp_lt (tgt := 120) C (a := ((F k : Nat) : Int)) (b := 59) dX3_kindAt_101 (by decide) (by omega) (fun h101 => ?_) (fun h101 => ?_)
                · refine lv_iload_n C.1 C.2.1 dX3_kindAt_120 rfl (lv_at hl 0 rfl) ?_
                  refine lv_sipush (v := zI 200) C.1 C.2.1 dX3_kindAt_121 (by decide) ?_
                  refine y_icmp_ne (tgt := 133) C (a := ((F k : Nat) : Int)) (b := 200) dX3_kindAt_124 (by decide) (by omega) (fun h124 => ?_) (fun h124 => ?_)
                  · refine lv_iload_n C.1 C.2.1 dX3_kindAt_133 rfl (lv_at hl 0 rfl) ?_
                    exact hret _ _ _ _ (zI ((F k : Nat) : Int)) hS ⟨congrArg (fun x : Int => some (zV x)) (by unfold kdC; (repeat' split) <;> omega), rfl⟩ rfl dX3_kindAt_134
                  · refine lv_sipush (v := zI 167) C.1 C.2.1 dX3_kindAt_127 (by decide) ?_
                    refine lv_goto (tgt := 134) C.1 C.2.1 dX3_kindAt_130 (by decide) ?_
                    exact hret _ _ _ _ (zI 167) hS ⟨congrArg (fun x : Int => some (zV x)) (by unfold kdC; (repeat' split) <;> omega), rfl⟩ rfl dX3_kindAt_134
                · refine lv_iload_n C.1 C.2.1 dX3_kindAt_104 rfl (lv_at hl 0 rfl) ?_
                  refine lv_bipush (v := zI 78) C.1 C.2.1 dX3_kindAt_105 (by decide) ?_
                  refine y_icmp_gt (tgt := 120) C (a := ((F k : Nat) : Int)) (b := 78) dX3_kindAt_107 (by decide) (by omega) (fun h107 => ?_) (fun h107 => ?_)
                  · refine lv_iload_n C.1 C.2.1 dX3_kindAt_120 rfl (lv_at hl 0 rfl) ?_
                    refine lv_sipush (v := zI 200) C.1 C.2.1 dX3_kindAt_121 (by decide) ?_
                    refine y_icmp_ne (tgt := 133) C (a := ((F k : Nat) : Int)) (b := 200) dX3_kindAt_124 (by decide) (by omega) (fun h124 => ?_) (fun h124 => ?_)
                    · refine lv_iload_n C.1 C.2.1 dX3_kindAt_133 rfl (lv_at hl 0 rfl) ?_
                      exact hret _ _ _ _ (zI ((F k : Nat) : Int)) hS ⟨congrArg (fun x : Int => some (zV x)) (by unfold kdC; (repeat' split) <;> omega), rfl⟩ rfl dX3_kindAt_134
                    · refine lv_sipush (v := zI 167) C.1 C.2.1 dX3_kindAt_127 (by decide) ?_
                      refine lv_goto (tgt := 134) C.1 C.2.1 dX3_kindAt_130 (by decide) ?_
                      exact hret _ _ _ _ (zI 167) hS ⟨congrArg (fun x : Int => some (zV x)) (by unfold kdC; (repeat' split) <;> omega), rfl⟩ rfl dX3_kindAt_134
                  · refine lv_bipush (v := zI 54) C.1 C.2.1 dX3_kindAt_110 (by decide) ?_
                    refine lv_iload_n C.1 C.2.1 dX3_kindAt_112 rfl (lv_at hl 0 rfl) ?_
                    refine lv_bipush (v := zI 59) C.1 C.2.1 dX3_kindAt_113 (by decide) ?_
                    refine y_isub C (a := ((F k : Nat) : Int)) (b := 59) dX3_kindAt_115 ?_
                    refine z_re (y := zI ((ocC F k - 59 : Nat) : Int)) (zI_c (by omega)) ?_
                    refine lv_iconst (v := zI 4) C.1 C.2.1 dX3_kindAt_116 (by decide) ?_
                    refine lv_idiv C.1 C.2.1 dX3_kindAt_117 (by decide) ?_
                    refine z_re (y := zI (((ocC F k - 59) / 4 : Nat) : Int)) (div4 (by omega)) ?_
                    refine y_iaddN C (a := 54) (b := (ocC F k - 59) / 4) dX3_kindAt_118 ?_
                    exact hret _ _ _ _ (zI ((54 + ((ocC F k - 59) / 4) : Nat) : Int)) hS ⟨congrArg (fun x : Int => some (zV x)) (by unfold kdC; (repeat' split) <;> omega), rfl⟩ rfl dX3_kindAt_119
              · refine lv_iload_n C.1 C.2.1 dX3_kindAt_82 rfl (lv_at hl 0 rfl) ?_
                refine lv_bipush (v := zI 45) C.1 C.2.1 dX3_kindAt_83 (by decide) ?_
                refine y_icmp_gt (tgt := 98) C (a := ((F k : Nat) : Int)) (b := 45) dX3_kindAt_85 (by decide) (by omega) (fun h85 => ?_) (fun h85 => ?_)
                · refine lv_iload_n C.1 C.2.1 dX3_kindAt_98 rfl (lv_at hl 0 rfl) ?_
                  refine lv_bipush (v := zI 59) C.1 C.2.1 dX3_kindAt_99 (by decide) ?_
                  refine y_icmp_lt (tgt := 120) C (a := ((F k : Nat) : Int)) (b := 59) dX3_kindAt_101 (by decide) (by omega) (fun h101 => ?_) (fun h101 => ?_)
                  · refine lv_iload_n C.1 C.2.1 dX3_kindAt_120 rfl (lv_at hl 0 rfl) ?_
                    refine lv_sipush (v := zI 200) C.1 C.2.1 dX3_kindAt_121 (by decide) ?_
                    refine y_icmp_ne (tgt := 133) C (a := ((F k : Nat) : Int)) (b := 200) dX3_kindAt_124 (by decide) (by omega) (fun h124 => ?_) (fun h124 => ?_)
                    · refine lv_iload_n C.1 C.2.1 dX3_kindAt_133 rfl (lv_at hl 0 rfl) ?_
                      exact hret _ _ _ _ (zI ((F k : Nat) : Int)) hS ⟨congrArg (fun x : Int => some (zV x)) (by unfold kdC; (repeat' split) <;> omega), rfl⟩ rfl dX3_kindAt_134
                    · refine lv_sipush (v := zI 167) C.1 C.2.1 dX3_kindAt_127 (by decide) ?_
                      refine lv_goto (tgt := 134) C.1 C.2.1 dX3_kindAt_130 (by decide) ?_
                      exact hret _ _ _ _ (zI 167) hS ⟨congrArg (fun x : Int => some (zV x)) (by unfold kdC; (repeat' split) <;> omega), rfl⟩ rfl dX3_kindAt_134
                  · refine lv_iload_n C.1 C.2.1 dX3_kindAt_104 rfl (lv_at hl 0 rfl) ?_
                    refine lv_bipush (v := zI 78) C.1 C.2.1 dX3_kindAt_105 (by decide) ?_
                    refine y_icmp_gt (tgt := 120) C (a := ((F k : Nat) : Int)) (b := 78) dX3_kindAt_107 (by decide) (by omega) (fun h107 => ?_) (fun h107 => ?_)
                    · refine lv_iload_n C.1 C.2.1 dX3_kindAt_120 rfl (lv_at hl 0 rfl) ?_
                      refine lv_sipush (v := zI 200) C.1 C.2.1 dX3_kindAt_121 (by decide) ?_
                      refine y_icmp_ne (tgt := 133) C (a := ((F k : Nat) : Int)) (b := 200) dX3_kindAt_124 (by decide) (by omega) (fun h124 => ?_) (fun h124 => ?_)
                      · refine lv_iload_n C.1 C.2.1 dX3_kindAt_133 rfl (lv_at hl 0 rfl) ?_
                        exact hret _ _ _ _ (zI ((F k : Nat) : Int)) hS ⟨congrArg (fun x : Int => some (zV x)) (by unfold kdC; (repeat' split) <;> omega), rfl⟩ rfl dX3_kindAt_134
                      · refine lv_sipush (v := zI 167) C.1 C.2.1 dX3_kindAt_127 (by decide) ?_
                        refine lv_goto (tgt := 134) C.1 C.2.1 dX3_kindAt_130 (by decide) ?_
                        exact hret _ _ _ _ (zI 167) hS ⟨congrArg (fun x : Int => some (zV x)) (by unfold kdC; (repeat' split) <;> omega), rfl⟩ rfl dX3_kindAt_134
                    · refine lv_bipush (v := zI 54) C.1 C.2.1 dX3_kindAt_110 (by decide) ?_
                      refine lv_iload_n C.1 C.2.1 dX3_kindAt_112 rfl (lv_at hl 0 rfl) ?_
                      refine lv_bipush (v := zI 59) C.1 C.2.1 dX3_kindAt_113 (by decide) ?_
                      refine y_isub C (a := ((F k : Nat) : Int)) (b := 59) dX3_kindAt_115 ?_
                      refine z_re (y := zI ((ocC F k - 59 : Nat) : Int)) (zI_c (by omega)) ?_
                      refine lv_iconst (v := zI 4) C.1 C.2.1 dX3_kindAt_116 (by decide) ?_
                      refine lv_idiv C.1 C.2.1 dX3_kindAt_117 (by decide) ?_
                      refine z_re (y := zI (((ocC F k - 59) / 4 : Nat) : Int)) (div4 (by omega)) ?_
                      refine y_iaddN C (a := 54) (b := (ocC F k - 59) / 4) dX3_kindAt_118 ?_
                      exact hret _ _ _ _ (zI ((54 + ((ocC F k - 59) / 4) : Nat) : Int)) hS ⟨congrArg (fun x : Int => some (zV x)) (by unfold kdC; (repeat' split) <;> omega), rfl⟩ rfl dX3_kindAt_119
                · refine lv_bipush (v := zI 21) C.1 C.2.1 dX3_kindAt_88 (by decide) ?_
                  refine lv_iload_n C.1 C.2.1 dX3_kindAt_90 rfl (lv_at hl 0 rfl) ?_
                  refine lv_bipush (v := zI 26) C.1 C.2.1 dX3_kindAt_91 (by decide) ?_
                  refine y_isub C (a := ((F k : Nat) : Int)) (b := 26) dX3_kindAt_93 ?_
                  refine z_re (y := zI ((ocC F k - 26 : Nat) : Int)) (zI_c (by omega)) ?_
                  refine lv_iconst (v := zI 4) C.1 C.2.1 dX3_kindAt_94 (by decide) ?_
                  refine lv_idiv C.1 C.2.1 dX3_kindAt_95 (by decide) ?_
                  refine z_re (y := zI (((ocC F k - 26) / 4 : Nat) : Int)) (div4 (by omega)) ?_
                  refine y_iaddN C (a := 21) (b := (ocC F k - 26) / 4) dX3_kindAt_96 ?_
                  exact hret _ _ _ _ (zI ((21 + ((ocC F k - 26) / 4) : Nat) : Int)) hS ⟨congrArg (fun x : Int => some (zV x)) (by unfold kdC; (repeat' split) <;> omega), rfl⟩ rfl dX3_kindAt_97
            · refine lv_sipush (v := zI 301) C.1 C.2.1 dX3_kindAt_72 (by decide) ?_
              exact hret _ _ _ _ (zI 301) hS ⟨congrArg (fun x : Int => some (zV x)) (by unfold kdC; (repeat' split) <;> omega), rfl⟩ rfl dX3_kindAt_75
      · refine lv_iload_n C.1 C.2.1 dX3_kindAt_44 rfl (lv_at hl 0 rfl) ?_
        refine lv_bipush (v := zI 19) C.1 C.2.1 dX3_kindAt_45 (by decide) ?_
        refine y_icmp_gt (tgt := 54) C (a := ((F k : Nat) : Int)) (b := 19) dX3_kindAt_47 (by decide) (by omega) (fun h47 => ?_) (fun h47 => ?_)
        · refine lv_iload_n C.1 C.2.1 dX3_kindAt_54 rfl (lv_at hl 0 rfl) ?_
          refine lv_bipush (v := zI 9) C.1 C.2.1 dX3_kindAt_55 (by decide) ?_
          refine y_icmp_eq (tgt := 72) C (a := ((F k : Nat) : Int)) (b := 9) dX3_kindAt_57 (by decide) (by omega) (fun h57 => ?_) (fun h57 => ?_)
          · refine lv_sipush (v := zI 301) C.1 C.2.1 dX3_kindAt_72 (by decide) ?_
            exact hret _ _ _ _ (zI 301) hS ⟨congrArg (fun x : Int => some (zV x)) (by unfold kdC; (repeat' split) <;> omega), rfl⟩ rfl dX3_kindAt_75
          · refine lv_iload_n C.1 C.2.1 dX3_kindAt_60 rfl (lv_at hl 0 rfl) ?_
            refine lv_bipush (v := zI 10) C.1 C.2.1 dX3_kindAt_61 (by decide) ?_
            refine y_icmp_eq (tgt := 72) C (a := ((F k : Nat) : Int)) (b := 10) dX3_kindAt_63 (by decide) (by omega) (fun h63 => ?_) (fun h63 => ?_)
            · refine lv_sipush (v := zI 301) C.1 C.2.1 dX3_kindAt_72 (by decide) ?_
              exact hret _ _ _ _ (zI 301) hS ⟨congrArg (fun x : Int => some (zV x)) (by unfold kdC; (repeat' split) <;> omega), rfl⟩ rfl dX3_kindAt_75
            · refine lv_iload_n C.1 C.2.1 dX3_kindAt_66 rfl (lv_at hl 0 rfl) ?_
              refine lv_bipush (v := zI 20) C.1 C.2.1 dX3_kindAt_67 (by decide) ?_
              refine y_icmp_ne (tgt := 76) C (a := ((F k : Nat) : Int)) (b := 20) dX3_kindAt_69 (by decide) (by omega) (fun h69 => ?_) (fun h69 => ?_)
              · refine lv_iload_n C.1 C.2.1 dX3_kindAt_76 rfl (lv_at hl 0 rfl) ?_
                refine lv_bipush (v := zI 26) C.1 C.2.1 dX3_kindAt_77 (by decide) ?_
                refine y_icmp_lt (tgt := 98) C (a := ((F k : Nat) : Int)) (b := 26) dX3_kindAt_79 (by decide) (by omega) (fun h79 => ?_) (fun h79 => ?_)
                · refine lv_iload_n C.1 C.2.1 dX3_kindAt_98 rfl (lv_at hl 0 rfl) ?_
                  refine lv_bipush (v := zI 59) C.1 C.2.1 dX3_kindAt_99 (by decide) ?_
                  refine y_icmp_lt (tgt := 120) C (a := ((F k : Nat) : Int)) (b := 59) dX3_kindAt_101 (by decide) (by omega) (fun h101 => ?_) (fun h101 => ?_)
                  · refine lv_iload_n C.1 C.2.1 dX3_kindAt_120 rfl (lv_at hl 0 rfl) ?_
                    refine lv_sipush (v := zI 200) C.1 C.2.1 dX3_kindAt_121 (by decide) ?_
                    refine y_icmp_ne (tgt := 133) C (a := ((F k : Nat) : Int)) (b := 200) dX3_kindAt_124 (by decide) (by omega) (fun h124 => ?_) (fun h124 => ?_)
                    · refine lv_iload_n C.1 C.2.1 dX3_kindAt_133 rfl (lv_at hl 0 rfl) ?_
                      exact hret _ _ _ _ (zI ((F k : Nat) : Int)) hS ⟨congrArg (fun x : Int => some (zV x)) (by unfold kdC; (repeat' split) <;> omega), rfl⟩ rfl dX3_kindAt_134
                    · refine lv_sipush (v := zI 167) C.1 C.2.1 dX3_kindAt_127 (by decide) ?_
                      refine lv_goto (tgt := 134) C.1 C.2.1 dX3_kindAt_130 (by decide) ?_
                      exact hret _ _ _ _ (zI 167) hS ⟨congrArg (fun x : Int => some (zV x)) (by unfold kdC; (repeat' split) <;> omega), rfl⟩ rfl dX3_kindAt_134
                  · refine lv_iload_n C.1 C.2.1 dX3_kindAt_104 rfl (lv_at hl 0 rfl) ?_
                    refine lv_bipush (v := zI 78) C.1 C.2.1 dX3_kindAt_105 (by decide) ?_
                    refine y_icmp_gt (tgt := 120) C (a := ((F k : Nat) : Int)) (b := 78) dX3_kindAt_107 (by decide) (by omega) (fun h107 => ?_) (fun h107 => ?_)
                    · refine lv_iload_n C.1 C.2.1 dX3_kindAt_120 rfl (lv_at hl 0 rfl) ?_
                      refine lv_sipush (v := zI 200) C.1 C.2.1 dX3_kindAt_121 (by decide) ?_
                      refine y_icmp_ne (tgt := 133) C (a := ((F k : Nat) : Int)) (b := 200) dX3_kindAt_124 (by decide) (by omega) (fun h124 => ?_) (fun h124 => ?_)
                      · refine lv_iload_n C.1 C.2.1 dX3_kindAt_133 rfl (lv_at hl 0 rfl) ?_
                        exact hret _ _ _ _ (zI ((F k : Nat) : Int)) hS ⟨congrArg (fun x : Int => some (zV x)) (by unfold kdC; (repeat' split) <;> omega), rfl⟩ rfl dX3_kindAt_134
                      · refine lv_sipush (v := zI 167) C.1 C.2.1 dX3_kindAt_127 (by decide) ?_
                        refine lv_goto (tgt := 134) C.1 C.2.1 dX3_kindAt_130 (by decide) ?_
                        exact hret _ _ _ _ (zI 167) hS ⟨congrArg (fun x : Int => some (zV x)) (by unfold kdC; (repeat' split) <;> omega), rfl⟩ rfl dX3_kindAt_134
                    · refine lv_bipush (v := zI 54) C.1 C.2.1 dX3_kindAt_110 (by decide) ?_
                      refine lv_iload_n C.1 C.2.1 dX3_kindAt_112 rfl (lv_at hl 0 rfl) ?_
                      refine lv_bipush (v := zI 59) C.1 C.2.1 dX3_kindAt_113 (by decide) ?_
                      refine y_isub C (a := ((F k : Nat) : Int)) (b := 59) dX3_kindAt_115 ?_
                      refine z_re (y := zI ((ocC F k - 59 : Nat) : Int)) (zI_c (by omega)) ?_
                      refine lv_iconst (v := zI 4) C.1 C.2.1 dX3_kindAt_116 (by decide) ?_
                      refine lv_idiv C.1 C.2.1 dX3_kindAt_117 (by decide) ?_
                      refine z_re (y := zI (((ocC F k - 59) / 4 : Nat) : Int)) (div4 (by omega)) ?_
                      refine y_iaddN C (a := 54) (b := (ocC F k - 59) / 4) dX3_kindAt_118 ?_
                      exact hret _ _ _ _ (zI ((54 + ((ocC F k - 59) / 4) : Nat) : Int)) hS ⟨congrArg (fun x : Int => some (zV x)) (by unfold kdC; (repeat' split) <;> omega), rfl⟩ rfl dX3_kindAt_119
                · refine lv_iload_n C.1 C.2.1 dX3_kindAt_82 rfl (lv_at hl 0 rfl) ?_
                  refine lv_bipush (v := zI 45) C.1 C.2.1 dX3_kindAt_83 (by decide) ?_
                  refine y_icmp_gt (tgt := 98) C (a := ((F k : Nat) : Int)) (b := 45) dX3_kindAt_85 (by decide) (by omega) (fun h85 => ?_) (fun h85 => ?_)
                  · refine lv_iload_n C.1 C.2.1 dX3_kindAt_98 rfl (lv_at hl 0 rfl) ?_
                    refine lv_bipush (v := zI 59) C.1 C.2.1 dX3_kindAt_99 (by decide) ?_
                    refine y_icmp_lt (tgt := 120) C (a := ((F k : Nat) : Int)) (b := 59) dX3_kindAt_101 (by decide) (by omega) (fun h101 => ?_) (fun h101 => ?_)
                    · refine lv_iload_n C.1 C.2.1 dX3_kindAt_120 rfl (lv_at hl 0 rfl) ?_
                      refine lv_sipush (v := zI 200) C.1 C.2.1 dX3_kindAt_121 (by decide) ?_
                      refine y_icmp_ne (tgt := 133) C (a := ((F k : Nat) : Int)) (b := 200) dX3_kindAt_124 (by decide) (by omega) (fun h124 => ?_) (fun h124 => ?_)
                      · refine lv_iload_n C.1 C.2.1 dX3_kindAt_133 rfl (lv_at hl 0 rfl) ?_
                        exact hret _ _ _ _ (zI ((F k : Nat) : Int)) hS ⟨congrArg (fun x : Int => some (zV x)) (by unfold kdC; (repeat' split) <;> omega), rfl⟩ rfl dX3_kindAt_134
                      · refine lv_sipush (v := zI 167) C.1 C.2.1 dX3_kindAt_127 (by decide) ?_
                        refine lv_goto (tgt := 134) C.1 C.2.1 dX3_kindAt_130 (by decide) ?_
                        exact hret _ _ _ _ (zI 167) hS ⟨congrArg (fun x : Int => some (zV x)) (by unfold kdC; (repeat' split) <;> omega), rfl⟩ rfl dX3_kindAt_134
                    · refine lv_iload_n C.1 C.2.1 dX3_kindAt_104 rfl (lv_at hl 0 rfl) ?_
                      refine lv_bipush (v := zI 78) C.1 C.2.1 dX3_kindAt_105 (by decide) ?_
                      refine y_icmp_gt (tgt := 120) C (a := ((F k : Nat) : Int)) (b := 78) dX3_kindAt_107 (by decide) (by omega) (fun h107 => ?_) (fun h107 => ?_)
                      · refine lv_iload_n C.1 C.2.1 dX3_kindAt_120 rfl (lv_at hl 0 rfl) ?_
                        refine lv_sipush (v := zI 200) C.1 C.2.1 dX3_kindAt_121 (by decide) ?_
                        refine y_icmp_ne (tgt := 133) C (a := ((F k : Nat) : Int)) (b := 200) dX3_kindAt_124 (by decide) (by omega) (fun h124 => ?_) (fun h124 => ?_)
                        · refine lv_iload_n C.1 C.2.1 dX3_kindAt_133 rfl (lv_at hl 0 rfl) ?_
                          exact hret _ _ _ _ (zI ((F k : Nat) : Int)) hS ⟨congrArg (fun x : Int => some (zV x)) (by unfold kdC; (repeat' split) <;> omega), rfl⟩ rfl dX3_kindAt_134
                        · refine lv_sipush (v := zI 167) C.1 C.2.1 dX3_kindAt_127 (by decide) ?_
                          refine lv_goto (tgt := 134) C.1 C.2.1 dX3_kindAt_130 (by decide) ?_
                          exact hret _ _ _ _ (zI 167) hS ⟨congrArg (fun x : Int => some (zV x)) (by unfold kdC; (repeat' split) <;> omega), rfl⟩ rfl dX3_kindAt_134
                      · refine lv_bipush (v := zI 54) C.1 C.2.1 dX3_kindAt_110 (by decide) ?_
                        refine lv_iload_n C.1 C.2.1 dX3_kindAt_112 rfl (lv_at hl 0 rfl) ?_
                        refine lv_bipush (v := zI 59) C.1 C.2.1 dX3_kindAt_113 (by decide) ?_
                        refine y_isub C (a := ((F k : Nat) : Int)) (b := 59) dX3_kindAt_115 ?_
                        refine z_re (y := zI ((ocC F k - 59 : Nat) : Int)) (zI_c (by omega)) ?_
                        refine lv_iconst (v := zI 4) C.1 C.2.1 dX3_kindAt_116 (by decide) ?_
                        refine lv_idiv C.1 C.2.1 dX3_kindAt_117 (by decide) ?_
                        refine z_re (y := zI (((ocC F k - 59) / 4 : Nat) : Int)) (div4 (by omega)) ?_
                        refine y_iaddN C (a := 54) (b := (ocC F k - 59) / 4) dX3_kindAt_118 ?_
                        exact hret _ _ _ _ (zI ((54 + ((ocC F k - 59) / 4) : Nat) : Int)) hS ⟨congrArg (fun x : Int => some (zV x)) (by unfold kdC; (repeat' split) <;> omega), rfl⟩ rfl dX3_kindAt_119
                  · refine lv_bipush (v := zI 21) C.1 C.2.1 dX3_kindAt_88 (by decide) ?_
                    refine lv_iload_n C.1 C.2.1 dX3_kindAt_90 rfl (lv_at hl 0 rfl) ?_
                    refine lv_bipush (v := zI 26) C.1 C.2.1 dX3_kindAt_91 (by decide) ?_
                    refine y_isub C (a := ((F k : Nat) : Int)) (b := 26) dX3_kindAt_93 ?_
                    refine z_re (y := zI ((ocC F k - 26 : Nat) : Int)) (zI_c (by omega)) ?_
                    refine lv_iconst (v := zI 4) C.1 C.2.1 dX3_kindAt_94 (by decide) ?_
                    refine lv_idiv C.1 C.2.1 dX3_kindAt_95 (by decide) ?_
                    refine z_re (y := zI (((ocC F k - 26) / 4 : Nat) : Int)) (div4 (by omega)) ?_
                    refine y_iaddN C (a := 21) (b := (ocC F k - 26) / 4) dX3_kindAt_96 ?_
                    exact hret _ _ _ _ (zI ((21 + ((ocC F k - 26) / 4) : Nat) : Int)) hS ⟨congrArg (fun x : Int => some (zV x)) (by unfold kdC; (repeat' split) <;> omega), rfl⟩ rfl dX3_kindAt_97
              · refine lv_sipush (v := zI 301) C.1 C.2.1 dX3_kindAt_72 (by decide) ?_
                exact hret _ _ _ _ (zI 301) hS ⟨congrArg (fun x : Int => some (zV x)) (by unfold kdC; (repeat' split) <;> omega), rfl⟩ rfl dX3_kindAt_75
        · refine lv_sipush (v := zI 300) C.1 C.2.1 dX3_kindAt_50 (by decide) ?_
          exact hret _ _ _ _ (zI 300) hS ⟨congrArg (fun x : Int => some (zV x)) (by unfold kdC; (repeat' split) <;> omega), rfl⟩ rfl dX3_kindAt_53
    · refine lv_iload_n C.1 C.2.1 dX3_kindAt_32 rfl (lv_at hl 0 rfl) ?_
      refine lv_bipush (v := zI 8) C.1 C.2.1 dX3_kindAt_33 (by decide) ?_
      refine y_icmp_le (tgt := 50) C (a := ((F k : Nat) : Int)) (b := 8) dX3_kindAt_35 (by decide) (by omega) (fun h35 => ?_) (fun h35 => ?_)
      · refine lv_sipush (v := zI 300) C.1 C.2.1 dX3_kindAt_50 (by decide) ?_
        exact hret _ _ _ _ (zI 300) hS ⟨congrArg (fun x : Int => some (zV x)) (by unfold kdC; (repeat' split) <;> omega), rfl⟩ rfl dX3_kindAt_53
      · refine lv_iload_n C.1 C.2.1 dX3_kindAt_38 rfl (lv_at hl 0 rfl) ?_
        refine lv_bipush (v := zI 16) C.1 C.2.1 dX3_kindAt_39 (by decide) ?_
        refine y_icmp_lt (tgt := 54) C (a := ((F k : Nat) : Int)) (b := 16) dX3_kindAt_41 (by decide) (by omega) (fun h41 => ?_) (fun h41 => ?_)
        · refine lv_iload_n C.1 C.2.1 dX3_kindAt_54 rfl (lv_at hl 0 rfl) ?_
          refine lv_bipush (v := zI 9) C.1 C.2.1 dX3_kindAt_55 (by decide) ?_
          refine y_icmp_eq (tgt := 72) C (a := ((F k : Nat) : Int)) (b := 9) dX3_kindAt_57 (by decide) (by omega) (fun h57 => ?_) (fun h57 => ?_)
          · refine lv_sipush (v := zI 301) C.1 C.2.1 dX3_kindAt_72 (by decide) ?_
            exact hret _ _ _ _ (zI 301) hS ⟨congrArg (fun x : Int => some (zV x)) (by unfold kdC; (repeat' split) <;> omega), rfl⟩ rfl dX3_kindAt_75
          · refine lv_iload_n C.1 C.2.1 dX3_kindAt_60 rfl (lv_at hl 0 rfl) ?_
            refine lv_bipush (v := zI 10) C.1 C.2.1 dX3_kindAt_61 (by decide) ?_
            refine y_icmp_eq (tgt := 72) C (a := ((F k : Nat) : Int)) (b := 10) dX3_kindAt_63 (by decide) (by omega) (fun h63 => ?_) (fun h63 => ?_)
            · refine lv_sipush (v := zI 301) C.1 C.2.1 dX3_kindAt_72 (by decide) ?_
              exact hret _ _ _ _ (zI 301) hS ⟨congrArg (fun x : Int => some (zV x)) (by unfold kdC; (repeat' split) <;> omega), rfl⟩ rfl dX3_kindAt_75
            · refine lv_iload_n C.1 C.2.1 dX3_kindAt_66 rfl (lv_at hl 0 rfl) ?_
              refine lv_bipush (v := zI 20) C.1 C.2.1 dX3_kindAt_67 (by decide) ?_
              refine y_icmp_ne (tgt := 76) C (a := ((F k : Nat) : Int)) (b := 20) dX3_kindAt_69 (by decide) (by omega) (fun h69 => ?_) (fun h69 => ?_)
              · refine lv_iload_n C.1 C.2.1 dX3_kindAt_76 rfl (lv_at hl 0 rfl) ?_
                refine lv_bipush (v := zI 26) C.1 C.2.1 dX3_kindAt_77 (by decide) ?_
                refine y_icmp_lt (tgt := 98) C (a := ((F k : Nat) : Int)) (b := 26) dX3_kindAt_79 (by decide) (by omega) (fun h79 => ?_) (fun h79 => ?_)
                · refine lv_iload_n C.1 C.2.1 dX3_kindAt_98 rfl (lv_at hl 0 rfl) ?_
                  refine lv_bipush (v := zI 59) C.1 C.2.1 dX3_kindAt_99 (by decide) ?_
                  refine y_icmp_lt (tgt := 120) C (a := ((F k : Nat) : Int)) (b := 59) dX3_kindAt_101 (by decide) (by omega) (fun h101 => ?_) (fun h101 => ?_)
                  · refine lv_iload_n C.1 C.2.1 dX3_kindAt_120 rfl (lv_at hl 0 rfl) ?_
                    refine lv_sipush (v := zI 200) C.1 C.2.1 dX3_kindAt_121 (by decide) ?_
                    refine y_icmp_ne (tgt := 133) C (a := ((F k : Nat) : Int)) (b := 200) dX3_kindAt_124 (by decide) (by omega) (fun h124 => ?_) (fun h124 => ?_)
                    · refine lv_iload_n C.1 C.2.1 dX3_kindAt_133 rfl (lv_at hl 0 rfl) ?_
                      exact hret _ _ _ _ (zI ((F k : Nat) : Int)) hS ⟨congrArg (fun x : Int => some (zV x)) (by unfold kdC; (repeat' split) <;> omega), rfl⟩ rfl dX3_kindAt_134
                    · refine lv_sipush (v := zI 167) C.1 C.2.1 dX3_kindAt_127 (by decide) ?_
                      refine lv_goto (tgt := 134) C.1 C.2.1 dX3_kindAt_130 (by decide) ?_
                      exact hret _ _ _ _ (zI 167) hS ⟨congrArg (fun x : Int => some (zV x)) (by unfold kdC; (repeat' split) <;> omega), rfl⟩ rfl dX3_kindAt_134
                  · refine lv_iload_n C.1 C.2.1 dX3_kindAt_104 rfl (lv_at hl 0 rfl) ?_
                    refine lv_bipush (v := zI 78) C.1 C.2.1 dX3_kindAt_105 (by decide) ?_
                    refine y_icmp_gt (tgt := 120) C (a := ((F k : Nat) : Int)) (b := 78) dX3_kindAt_107 (by decide) (by omega) (fun h107 => ?_) (fun h107 => ?_)
                    · refine lv_iload_n C.1 C.2.1 dX3_kindAt_120 rfl (lv_at hl 0 rfl) ?_
                      refine lv_sipush (v := zI 200) C.1 C.2.1 dX3_kindAt_121 (by decide) ?_
                      refine y_icmp_ne (tgt := 133) C (a := ((F k : Nat) : Int)) (b := 200) dX3_kindAt_124 (by decide) (by omega) (fun h124 => ?_) (fun h124 => ?_)
                      · refine lv_iload_n C.1 C.2.1 dX3_kindAt_133 rfl (lv_at hl 0 rfl) ?_
                        exact hret _ _ _ _ (zI ((F k : Nat) : Int)) hS ⟨congrArg (fun x : Int => some (zV x)) (by unfold kdC; (repeat' split) <;> omega), rfl⟩ rfl dX3_kindAt_134
                      · refine lv_sipush (v := zI 167) C.1 C.2.1 dX3_kindAt_127 (by decide) ?_
                        refine lv_goto (tgt := 134) C.1 C.2.1 dX3_kindAt_130 (by decide) ?_
                        exact hret _ _ _ _ (zI 167) hS ⟨congrArg (fun x : Int => some (zV x)) (by unfold kdC; (repeat' split) <;> omega), rfl⟩ rfl dX3_kindAt_134
                    · refine lv_bipush (v := zI 54) C.1 C.2.1 dX3_kindAt_110 (by decide) ?_
                      refine lv_iload_n C.1 C.2.1 dX3_kindAt_112 rfl (lv_at hl 0 rfl) ?_
                      refine lv_bipush (v := zI 59) C.1 C.2.1 dX3_kindAt_113 (by decide) ?_
                      refine y_isub C (a := ((F k : Nat) : Int)) (b := 59) dX3_kindAt_115 ?_
                      refine z_re (y := zI ((ocC F k - 59 : Nat) : Int)) (zI_c (by omega)) ?_
                      refine lv_iconst (v := zI 4) C.1 C.2.1 dX3_kindAt_116 (by decide) ?_
                      refine lv_idiv C.1 C.2.1 dX3_kindAt_117 (by decide) ?_
                      refine z_re (y := zI (((ocC F k - 59) / 4 : Nat) : Int)) (div4 (by omega)) ?_
                      refine y_iaddN C (a := 54) (b := (ocC F k - 59) / 4) dX3_kindAt_118 ?_
                      exact hret _ _ _ _ (zI ((54 + ((ocC F k - 59) / 4) : Nat) : Int)) hS ⟨congrArg (fun x : Int => some (zV x)) (by unfold kdC; (repeat' split) <;> omega), rfl⟩ rfl dX3_kindAt_119
                · refine lv_iload_n C.1 C.2.1 dX3_kindAt_82 rfl (lv_at hl 0 rfl) ?_
                  refine lv_bipush (v := zI 45) C.1 C.2.1 dX3_kindAt_83 (by decide) ?_
                  refine y_icmp_gt (tgt := 98) C (a := ((F k : Nat) : Int)) (b := 45) dX3_kindAt_85 (by decide) (by omega) (fun h85 => ?_) (fun h85 => ?_)
                  · refine lv_iload_n C.1 C.2.1 dX3_kindAt_98 rfl (lv_at hl 0 rfl) ?_
                    refine lv_bipush (v := zI 59) C.1 C.2.1 dX3_kindAt_99 (by decide) ?_
                    refine y_icmp_lt (tgt := 120) C (a := ((F k : Nat) : Int)) (b := 59) dX3_kindAt_101 (by decide) (by omega) (fun h101 => ?_) (fun h101 => ?_)
                    · refine lv_iload_n C.1 C.2.1 dX3_kindAt_120 rfl (lv_at hl 0 rfl) ?_
                      refine lv_sipush (v := zI 200) C.1 C.2.1 dX3_kindAt_121 (by decide) ?_
                      refine y_icmp_ne (tgt := 133) C (a := ((F k : Nat) : Int)) (b := 200) dX3_kindAt_124 (by decide) (by omega) (fun h124 => ?_) (fun h124 => ?_)
                      · refine lv_iload_n C.1 C.2.1 dX3_kindAt_133 rfl (lv_at hl 0 rfl) ?_
                        exact hret _ _ _ _ (zI ((F k : Nat) : Int)) hS ⟨congrArg (fun x : Int => some (zV x)) (by unfold kdC; (repeat' split) <;> omega), rfl⟩ rfl dX3_kindAt_134
                      · refine lv_sipush (v := zI 167) C.1 C.2.1 dX3_kindAt_127 (by decide) ?_
                        refine lv_goto (tgt := 134) C.1 C.2.1 dX3_kindAt_130 (by decide) ?_
                        exact hret _ _ _ _ (zI 167) hS ⟨congrArg (fun x : Int => some (zV x)) (by unfold kdC; (repeat' split) <;> omega), rfl⟩ rfl dX3_kindAt_134
                    · refine lv_iload_n C.1 C.2.1 dX3_kindAt_104 rfl (lv_at hl 0 rfl) ?_
                      refine lv_bipush (v := zI 78) C.1 C.2.1 dX3_kindAt_105 (by decide) ?_
                      refine y_icmp_gt (tgt := 120) C (a := ((F k : Nat) : Int)) (b := 78) dX3_kindAt_107 (by decide) (by omega) (fun h107 => ?_) (fun h107 => ?_)
                      · refine lv_iload_n C.1 C.2.1 dX3_kindAt_120 rfl (lv_at hl 0 rfl) ?_
                        refine lv_sipush (v := zI 200) C.1 C.2.1 dX3_kindAt_121 (by decide) ?_
                        refine y_icmp_ne (tgt := 133) C (a := ((F k : Nat) : Int)) (b := 200) dX3_kindAt_124 (by decide) (by omega) (fun h124 => ?_) (fun h124 => ?_)
                        · refine lv_iload_n C.1 C.2.1 dX3_kindAt_133 rfl (lv_at hl 0 rfl) ?_
                          exact hret _ _ _ _ (zI ((F k : Nat) : Int)) hS ⟨congrArg (fun x : Int => some (zV x)) (by unfold kdC; (repeat' split) <;> omega), rfl⟩ rfl dX3_kindAt_134
                        · refine lv_sipush (v := zI 167) C.1 C.2.1 dX3_kindAt_127 (by decide) ?_
                          refine lv_goto (tgt := 134) C.1 C.2.1 dX3_kindAt_130 (by decide) ?_
                          exact hret _ _ _ _ (zI 167) hS ⟨congrArg (fun x : Int => some (zV x)) (by unfold kdC; (repeat' split) <;> omega), rfl⟩ rfl dX3_kindAt_134
                      · refine lv_bipush (v := zI 54) C.1 C.2.1 dX3_kindAt_110 (by decide) ?_
                        refine lv_iload_n C.1 C.2.1 dX3_kindAt_112 rfl (lv_at hl 0 rfl) ?_
                        refine lv_bipush (v := zI 59) C.1 C.2.1 dX3_kindAt_113 (by decide) ?_
                        refine y_isub C (a := ((F k : Nat) : Int)) (b := 59) dX3_kindAt_115 ?_
                        refine z_re (y := zI ((ocC F k - 59 : Nat) : Int)) (zI_c (by omega)) ?_
                        refine lv_iconst (v := zI 4) C.1 C.2.1 dX3_kindAt_116 (by decide) ?_
                        refine lv_idiv C.1 C.2.1 dX3_kindAt_117 (by decide) ?_
                        refine z_re (y := zI (((ocC F k - 59) / 4 : Nat) : Int)) (div4 (by omega)) ?_
                        refine y_iaddN C (a := 54) (b := (ocC F k - 59) / 4) dX3_kindAt_118 ?_
                        exact hret _ _ _ _ (zI ((54 + ((ocC F k - 59) / 4) : Nat) : Int)) hS ⟨congrArg (fun x : Int => some (zV x)) (by unfold kdC; (repeat' split) <;> omega), rfl⟩ rfl dX3_kindAt_119
                  · refine lv_bipush (v := zI 21) C.1 C.2.1 dX3_kindAt_88 (by decide) ?_
                    refine lv_iload_n C.1 C.2.1 dX3_kindAt_90 rfl (lv_at hl 0 rfl) ?_
                    refine lv_bipush (v := zI 26) C.1 C.2.1 dX3_kindAt_91 (by decide) ?_
                    refine y_isub C (a := ((F k : Nat) : Int)) (b := 26) dX3_kindAt_93 ?_
                    refine z_re (y := zI ((ocC F k - 26 : Nat) : Int)) (zI_c (by omega)) ?_
                    refine lv_iconst (v := zI 4) C.1 C.2.1 dX3_kindAt_94 (by decide) ?_
                    refine lv_idiv C.1 C.2.1 dX3_kindAt_95 (by decide) ?_
                    refine z_re (y := zI (((ocC F k - 26) / 4 : Nat) : Int)) (div4 (by omega)) ?_
                    refine y_iaddN C (a := 21) (b := (ocC F k - 26) / 4) dX3_kindAt_96 ?_
                    exact hret _ _ _ _ (zI ((21 + ((ocC F k - 26) / 4) : Nat) : Int)) hS ⟨congrArg (fun x : Int => some (zV x)) (by unfold kdC; (repeat' split) <;> omega), rfl⟩ rfl dX3_kindAt_97
              · refine lv_sipush (v := zI 301) C.1 C.2.1 dX3_kindAt_72 (by decide) ?_
                exact hret _ _ _ _ (zI 301) hS ⟨congrArg (fun x : Int => some (zV x)) (by unfold kdC; (repeat' split) <;> omega), rfl⟩ rfl dX3_kindAt_75
        · refine lv_iload_n C.1 C.2.1 dX3_kindAt_44 rfl (lv_at hl 0 rfl) ?_
          refine lv_bipush (v := zI 19) C.1 C.2.1 dX3_kindAt_45 (by decide) ?_
          refine y_icmp_gt (tgt := 54) C (a := ((F k : Nat) : Int)) (b := 19) dX3_kindAt_47 (by decide) (by omega) (fun h47 => ?_) (fun h47 => ?_)
          · refine lv_iload_n C.1 C.2.1 dX3_kindAt_54 rfl (lv_at hl 0 rfl) ?_
            refine lv_bipush (v := zI 9) C.1 C.2.1 dX3_kindAt_55 (by decide) ?_
            refine y_icmp_eq (tgt := 72) C (a := ((F k : Nat) : Int)) (b := 9) dX3_kindAt_57 (by decide) (by omega) (fun h57 => ?_) (fun h57 => ?_)
            · refine lv_sipush (v := zI 301) C.1 C.2.1 dX3_kindAt_72 (by decide) ?_
              exact hret _ _ _ _ (zI 301) hS ⟨congrArg (fun x : Int => some (zV x)) (by unfold kdC; (repeat' split) <;> omega), rfl⟩ rfl dX3_kindAt_75
            · refine lv_iload_n C.1 C.2.1 dX3_kindAt_60 rfl (lv_at hl 0 rfl) ?_
              refine lv_bipush (v := zI 10) C.1 C.2.1 dX3_kindAt_61 (by decide) ?_
              refine y_icmp_eq (tgt := 72) C (a := ((F k : Nat) : Int)) (b := 10) dX3_kindAt_63 (by decide) (by omega) (fun h63 => ?_) (fun h63 => ?_)
              · refine lv_sipush (v := zI 301) C.1 C.2.1 dX3_kindAt_72 (by decide) ?_
                exact hret _ _ _ _ (zI 301) hS ⟨congrArg (fun x : Int => some (zV x)) (by unfold kdC; (repeat' split) <;> omega), rfl⟩ rfl dX3_kindAt_75
              · refine lv_iload_n C.1 C.2.1 dX3_kindAt_66 rfl (lv_at hl 0 rfl) ?_
                refine lv_bipush (v := zI 20) C.1 C.2.1 dX3_kindAt_67 (by decide) ?_
                refine y_icmp_ne (tgt := 76) C (a := ((F k : Nat) : Int)) (b := 20) dX3_kindAt_69 (by decide) (by omega) (fun h69 => ?_) (fun h69 => ?_)
                · refine lv_iload_n C.1 C.2.1 dX3_kindAt_76 rfl (lv_at hl 0 rfl) ?_
                  refine lv_bipush (v := zI 26) C.1 C.2.1 dX3_kindAt_77 (by decide) ?_
                  refine y_icmp_lt (tgt := 98) C (a := ((F k : Nat) : Int)) (b := 26) dX3_kindAt_79 (by decide) (by omega) (fun h79 => ?_) (fun h79 => ?_)
                  · refine lv_iload_n C.1 C.2.1 dX3_kindAt_98 rfl (lv_at hl 0 rfl) ?_
                    refine lv_bipush (v := zI 59) C.1 C.2.1 dX3_kindAt_99 (by decide) ?_
                    refine y_icmp_lt (tgt := 120) C (a := ((F k : Nat) : Int)) (b := 59) dX3_kindAt_101 (by decide) (by omega) (fun h101 => ?_) (fun h101 => ?_)
                    · refine lv_iload_n C.1 C.2.1 dX3_kindAt_120 rfl (lv_at hl 0 rfl) ?_
                      refine lv_sipush (v := zI 200) C.1 C.2.1 dX3_kindAt_121 (by decide) ?_
                      refine y_icmp_ne (tgt := 133) C (a := ((F k : Nat) : Int)) (b := 200) dX3_kindAt_124 (by decide) (by omega) (fun h124 => ?_) (fun h124 => ?_)
                      · refine lv_iload_n C.1 C.2.1 dX3_kindAt_133 rfl (lv_at hl 0 rfl) ?_
                        exact hret _ _ _ _ (zI ((F k : Nat) : Int)) hS ⟨congrArg (fun x : Int => some (zV x)) (by unfold kdC; (repeat' split) <;> omega), rfl⟩ rfl dX3_kindAt_134
                      · refine lv_sipush (v := zI 167) C.1 C.2.1 dX3_kindAt_127 (by decide) ?_
                        refine lv_goto (tgt := 134) C.1 C.2.1 dX3_kindAt_130 (by decide) ?_
                        exact hret _ _ _ _ (zI 167) hS ⟨congrArg (fun x : Int => some (zV x)) (by unfold kdC; (repeat' split) <;> omega), rfl⟩ rfl dX3_kindAt_134
                    · refine lv_iload_n C.1 C.2.1 dX3_kindAt_104 rfl (lv_at hl 0 rfl) ?_
                      refine lv_bipush (v := zI 78) C.1 C.2.1 dX3_kindAt_105 (by decide) ?_
                      refine y_icmp_gt (tgt := 120) C (a := ((F k : Nat) : Int)) (b := 78) dX3_kindAt_107 (by decide) (by omega) (fun h107 => ?_) (fun h107 => ?_)
                      · refine lv_iload_n C.1 C.2.1 dX3_kindAt_120 rfl (lv_at hl 0 rfl) ?_
                        refine lv_sipush (v := zI 200) C.1 C.2.1 dX3_kindAt_121 (by decide) ?_
                        refine y_icmp_ne (tgt := 133) C (a := ((F k : Nat) : Int)) (b := 200) dX3_kindAt_124 (by decide) (by omega) (fun h124 => ?_) (fun h124 => ?_)
                        · refine lv_iload_n C.1 C.2.1 dX3_kindAt_133 rfl (lv_at hl 0 rfl) ?_
                          exact hret _ _ _ _ (zI ((F k : Nat) : Int)) hS ⟨congrArg (fun x : Int => some (zV x)) (by unfold kdC; (repeat' split) <;> omega), rfl⟩ rfl dX3_kindAt_134
                        · refine lv_sipush (v := zI 167) C.1 C.2.1 dX3_kindAt_127 (by decide) ?_
                          refine lv_goto (tgt := 134) C.1 C.2.1 dX3_kindAt_130 (by decide) ?_
                          exact hret _ _ _ _ (zI 167) hS ⟨congrArg (fun x : Int => some (zV x)) (by unfold kdC; (repeat' split) <;> omega), rfl⟩ rfl dX3_kindAt_134
                      · refine lv_bipush (v := zI 54) C.1 C.2.1 dX3_kindAt_110 (by decide) ?_
                        refine lv_iload_n C.1 C.2.1 dX3_kindAt_112 rfl (lv_at hl 0 rfl) ?_
                        refine lv_bipush (v := zI 59) C.1 C.2.1 dX3_kindAt_113 (by decide) ?_
                        refine y_isub C (a := ((F k : Nat) : Int)) (b := 59) dX3_kindAt_115 ?_
                        refine z_re (y := zI ((ocC F k - 59 : Nat) : Int)) (zI_c (by omega)) ?_
                        refine lv_iconst (v := zI 4) C.1 C.2.1 dX3_kindAt_116 (by decide) ?_
                        refine lv_idiv C.1 C.2.1 dX3_kindAt_117 (by decide) ?_
                        refine z_re (y := zI (((ocC F k - 59) / 4 : Nat) : Int)) (div4 (by omega)) ?_
                        refine y_iaddN C (a := 54) (b := (ocC F k - 59) / 4) dX3_kindAt_118 ?_
                        exact hret _ _ _ _ (zI ((54 + ((ocC F k - 59) / 4) : Nat) : Int)) hS ⟨congrArg (fun x : Int => some (zV x)) (by unfold kdC; (repeat' split) <;> omega), rfl⟩ rfl dX3_kindAt_119
                  · refine lv_iload_n C.1 C.2.1 dX3_kindAt_82 rfl (lv_at hl 0 rfl) ?_
                    refine lv_bipush (v := zI 45) C.1 C.2.1 dX3_kindAt_83 (by decide) ?_
                    refine y_icmp_gt (tgt := 98) C (a := ((F k : Nat) : Int)) (b := 45) dX3_kindAt_85 (by decide) (by omega) (fun h85 => ?_) (fun h85 => ?_)
                    · refine lv_iload_n C.1 C.2.1 dX3_kindAt_98 rfl (lv_at hl 0 rfl) ?_
                      refine lv_bipush (v := zI 59) C.1 C.2.1 dX3_kindAt_99 (by decide) ?_
                      refine y_icmp_lt (tgt := 120) C (a := ((F k : Nat) : Int)) (b := 59) dX3_kindAt_101 (by decide) (by omega) (fun h101 => ?_) (fun h101 => ?_)
                      · refine lv_iload_n C.1 C.2.1 dX3_kindAt_120 rfl (lv_at hl 0 rfl) ?_
                        refine lv_sipush (v := zI 200) C.1 C.2.1 dX3_kindAt_121 (by decide) ?_
                        refine y_icmp_ne (tgt := 133) C (a := ((F k : Nat) : Int)) (b := 200) dX3_kindAt_124 (by decide) (by omega) (fun h124 => ?_) (fun h124 => ?_)
                        · refine lv_iload_n C.1 C.2.1 dX3_kindAt_133 rfl (lv_at hl 0 rfl) ?_
                          exact hret _ _ _ _ (zI ((F k : Nat) : Int)) hS ⟨congrArg (fun x : Int => some (zV x)) (by unfold kdC; (repeat' split) <;> omega), rfl⟩ rfl dX3_kindAt_134
                        · refine lv_sipush (v := zI 167) C.1 C.2.1 dX3_kindAt_127 (by decide) ?_
                          refine lv_goto (tgt := 134) C.1 C.2.1 dX3_kindAt_130 (by decide) ?_
                          exact hret _ _ _ _ (zI 167) hS ⟨congrArg (fun x : Int => some (zV x)) (by unfold kdC; (repeat' split) <;> omega), rfl⟩ rfl dX3_kindAt_134
                      · refine lv_iload_n C.1 C.2.1 dX3_kindAt_104 rfl (lv_at hl 0 rfl) ?_
                        refine lv_bipush (v := zI 78) C.1 C.2.1 dX3_kindAt_105 (by decide) ?_
                        refine y_icmp_gt (tgt := 120) C (a := ((F k : Nat) : Int)) (b := 78) dX3_kindAt_107 (by decide) (by omega) (fun h107 => ?_) (fun h107 => ?_)
                        · refine lv_iload_n C.1 C.2.1 dX3_kindAt_120 rfl (lv_at hl 0 rfl) ?_
                          refine lv_sipush (v := zI 200) C.1 C.2.1 dX3_kindAt_121 (by decide) ?_
                          refine y_icmp_ne (tgt := 133) C (a := ((F k : Nat) : Int)) (b := 200) dX3_kindAt_124 (by decide) (by omega) (fun h124 => ?_) (fun h124 => ?_)
                          · refine lv_iload_n C.1 C.2.1 dX3_kindAt_133 rfl (lv_at hl 0 rfl) ?_
                            exact hret _ _ _ _ (zI ((F k : Nat) : Int)) hS ⟨congrArg (fun x : Int => some (zV x)) (by unfold kdC; (repeat' split) <;> omega), rfl⟩ rfl dX3_kindAt_134
                          · refine lv_sipush (v := zI 167) C.1 C.2.1 dX3_kindAt_127 (by decide) ?_
                            refine lv_goto (tgt := 134) C.1 C.2.1 dX3_kindAt_130 (by decide) ?_
                            exact hret _ _ _ _ (zI 167) hS ⟨congrArg (fun x : Int => some (zV x)) (by unfold kdC; (repeat' split) <;> omega), rfl⟩ rfl dX3_kindAt_134
                        · refine lv_bipush (v := zI 54) C.1 C.2.1 dX3_kindAt_110 (by decide) ?_
                          refine lv_iload_n C.1 C.2.1 dX3_kindAt_112 rfl (lv_at hl 0 rfl) ?_
                          refine lv_bipush (v := zI 59) C.1 C.2.1 dX3_kindAt_113 (by decide) ?_
                          refine y_isub C (a := ((F k : Nat) : Int)) (b := 59) dX3_kindAt_115 ?_
                          refine z_re (y := zI ((ocC F k - 59 : Nat) : Int)) (zI_c (by omega)) ?_
                          refine lv_iconst (v := zI 4) C.1 C.2.1 dX3_kindAt_116 (by decide) ?_
                          refine lv_idiv C.1 C.2.1 dX3_kindAt_117 (by decide) ?_
                          refine z_re (y := zI (((ocC F k - 59) / 4 : Nat) : Int)) (div4 (by omega)) ?_
                          refine y_iaddN C (a := 54) (b := (ocC F k - 59) / 4) dX3_kindAt_118 ?_
                          exact hret _ _ _ _ (zI ((54 + ((ocC F k - 59) / 4) : Nat) : Int)) hS ⟨congrArg (fun x : Int => some (zV x)) (by unfold kdC; (repeat' split) <;> omega), rfl⟩ rfl dX3_kindAt_119
                    · refine lv_bipush (v := zI 21) C.1 C.2.1 dX3_kindAt_88 (by decide) ?_
                      refine lv_iload_n C.1 C.2.1 dX3_kindAt_90 rfl (lv_at hl 0 rfl) ?_
                      refine lv_bipush (v := zI 26) C.1 C.2.1 dX3_kindAt_91 (by decide) ?_
                      refine y_isub C (a := ((F k : Nat) : Int)) (b := 26) dX3_kindAt_93 ?_
                      refine z_re (y := zI ((ocC F k - 26 : Nat) : Int)) (zI_c (by omega)) ?_
                      refine lv_iconst (v := zI 4) C.1 C.2.1 dX3_kindAt_94 (by decide) ?_
                      refine lv_idiv C.1 C.2.1 dX3_kindAt_95 (by decide) ?_
                      refine z_re (y := zI (((ocC F k - 26) / 4 : Nat) : Int)) (div4 (by omega)) ?_
                      refine y_iaddN C (a := 21) (b := (ocC F k - 26) / 4) dX3_kindAt_96 ?_
                      exact hret _ _ _ _ (zI ((21 + ((ocC F k - 26) / 4) : Nat) : Int)) hS ⟨congrArg (fun x : Int => some (zV x)) (by unfold kdC; (repeat' split) <;> omega), rfl⟩ rfl dX3_kindAt_97
                · refine lv_sipush (v := zI 301) C.1 C.2.1 dX3_kindAt_72 (by decide) ?_
                  exact hret _ _ _ _ (zI 301) hS ⟨congrArg (fun x : Int => some (zV x)) (by unfold kdC; (repeat' split) <;> omega), rfl⟩ rfl dX3_kindAt_75
          · refine lv_sipush (v := zI 300) C.1 C.2.1 dX3_kindAt_50 (by decide) ?_
            exact hret _ _ _ _ (zI 300) hS ⟨congrArg (fun x : Int => some (zV x)) (by unfold kdC; (repeat' split) <;> omega), rfl⟩ rfl dX3_kindAt_53
  · have hoc : ocC F k = F (k + 1) := if_pos (by omega)
    refine lv_aload_n C.1 C.2.1 dX3_kindAt_11 rfl (lv_at hl 0 rfl) ?_
    refine lv_iload_n C.1 C.2.1 dX3_kindAt_12 rfl (lv_at hl 1 rfl) ?_
    refine lv_iconst (v := zI 1) C.1 C.2.1 dX3_kindAt_13 (by decide) ?_
    refine y_iaddN C (a := k) (b := 1) dX3_kindAt_14 ?_
    refine z_readV C (As := [zN (k + 1)]) (rest := []) (c_u1 l Z hM hB (k + 1) rfl (by omega)) hM.byt rfl ⟨⟨zw_9_12, zw_2_15, zw_21_1⟩, zd_X1_u1⟩ zw_9_10 zw_9_11 ⟨Nat.le_of_ble_eq_true rfl, Nat.le_of_ble_eq_true rfl⟩ ⟨rfl, rfl⟩ rfl hl.1 rfl (Nat.le_of_ble_eq_true rfl) dX3_kindAt_15 ⟨Nat.zero_le _, Nat.zero_le _⟩ hS (fun locs hS => ?_)
    have := hB.1 (k + 1)
    refine lv_goto (tgt := 26) C.1 C.2.1 dX3_kindAt_18 (by decide) ?_
    refine lv_istore_n (lv' := [(2, zN (F (k + 1))), (0, .ref (ad 1)), (1, zN k)]) C.1 C.2.1 dX3_kindAt_26 rfl hl (by decide) rfl (fun ls hl => ?_)
    refine lv_iload_n C.1 C.2.1 dX3_kindAt_27 rfl (lv_at hl 0 rfl) ?_
    refine lv_iconst (v := zI 2) C.1 C.2.1 dX3_kindAt_28 (by decide) ?_
    refine y_icmp_lt (tgt := 38) C (a := ((F (k + 1) : Nat) : Int)) (b := 2) dX3_kindAt_29 (by decide) (by omega) (fun h29 => ?_) (fun h29 => ?_)
    · refine lv_iload_n C.1 C.2.1 dX3_kindAt_38 rfl (lv_at hl 0 rfl) ?_
      refine lv_bipush (v := zI 16) C.1 C.2.1 dX3_kindAt_39 (by decide) ?_
      refine y_icmp_lt (tgt := 54) C (a := ((F (k + 1) : Nat) : Int)) (b := 16) dX3_kindAt_41 (by decide) (by omega) (fun h41 => ?_) (fun h41 => ?_)
      · refine lv_iload_n C.1 C.2.1 dX3_kindAt_54 rfl (lv_at hl 0 rfl) ?_
        refine lv_bipush (v := zI 9) C.1 C.2.1 dX3_kindAt_55 (by decide) ?_
        refine y_icmp_eq (tgt := 72) C (a := ((F (k + 1) : Nat) : Int)) (b := 9) dX3_kindAt_57 (by decide) (by omega) (fun h57 => ?_) (fun h57 => ?_)
        · refine lv_sipush (v := zI 301) C.1 C.2.1 dX3_kindAt_72 (by decide) ?_
          exact hret _ _ _ _ (zI 301) hS ⟨congrArg (fun x : Int => some (zV x)) (by unfold kdC; (repeat' split) <;> omega), rfl⟩ rfl dX3_kindAt_75
        · refine lv_iload_n C.1 C.2.1 dX3_kindAt_60 rfl (lv_at hl 0 rfl) ?_
          refine lv_bipush (v := zI 10) C.1 C.2.1 dX3_kindAt_61 (by decide) ?_
          refine y_icmp_eq (tgt := 72) C (a := ((F (k + 1) : Nat) : Int)) (b := 10) dX3_kindAt_63 (by decide) (by omega) (fun h63 => ?_) (fun h63 => ?_)
          · refine lv_sipush (v := zI 301) C.1 C.2.1 dX3_kindAt_72 (by decide) ?_
            exact hret _ _ _ _ (zI 301) hS ⟨congrArg (fun x : Int => some (zV x)) (by unfold kdC; (repeat' split) <;> omega), rfl⟩ rfl dX3_kindAt_75
          · refine lv_iload_n C.1 C.2.1 dX3_kindAt_66 rfl (lv_at hl 0 rfl) ?_
            refine lv_bipush (v := zI 20) C.1 C.2.1 dX3_kindAt_67 (by decide) ?_
            refine y_icmp_ne (tgt := 76) C (a := ((F (k + 1) : Nat) : Int)) (b := 20) dX3_kindAt_69 (by decide) (by omega) (fun h69 => ?_) (fun h69 => ?_)
            · refine lv_iload_n C.1 C.2.1 dX3_kindAt_76 rfl (lv_at hl 0 rfl) ?_
              refine lv_bipush (v := zI 26) C.1 C.2.1 dX3_kindAt_77 (by decide) ?_
              refine y_icmp_lt (tgt := 98) C (a := ((F (k + 1) : Nat) : Int)) (b := 26) dX3_kindAt_79 (by decide) (by omega) (fun h79 => ?_) (fun h79 => ?_)
              · refine lv_iload_n C.1 C.2.1 dX3_kindAt_98 rfl (lv_at hl 0 rfl) ?_
                refine lv_bipush (v := zI 59) C.1 C.2.1 dX3_kindAt_99 (by decide) ?_
                refine y_icmp_lt (tgt := 120) C (a := ((F (k + 1) : Nat) : Int)) (b := 59) dX3_kindAt_101 (by decide) (by omega) (fun h101 => ?_) (fun h101 => ?_)
                · refine lv_iload_n C.1 C.2.1 dX3_kindAt_120 rfl (lv_at hl 0 rfl) ?_
                  refine lv_sipush (v := zI 200) C.1 C.2.1 dX3_kindAt_121 (by decide) ?_
                  refine y_icmp_ne (tgt := 133) C (a := ((F (k + 1) : Nat) : Int)) (b := 200) dX3_kindAt_124 (by decide) (by omega) (fun h124 => ?_) (fun h124 => ?_)
                  · refine lv_iload_n C.1 C.2.1 dX3_kindAt_133 rfl (lv_at hl 0 rfl) ?_
                    exact hret _ _ _ _ (zI ((F (k + 1) : Nat) : Int)) hS ⟨congrArg (fun x : Int => some (zV x)) (by unfold kdC; (repeat' split) <;> omega), rfl⟩ rfl dX3_kindAt_134
                  · refine lv_sipush (v := zI 167) C.1 C.2.1 dX3_kindAt_127 (by decide) ?_
                    refine lv_goto (tgt := 134) C.1 C.2.1 dX3_kindAt_130 (by decide) ?_
                    exact hret _ _ _ _ (zI 167) hS ⟨congrArg (fun x : Int => some (zV x)) (by unfold kdC; (repeat' split) <;> omega), rfl⟩ rfl dX3_kindAt_134
                · refine lv_iload_n C.1 C.2.1 dX3_kindAt_104 rfl (lv_at hl 0 rfl) ?_
                  refine lv_bipush (v := zI 78) C.1 C.2.1 dX3_kindAt_105 (by decide) ?_
                  refine y_icmp_gt (tgt := 120) C (a := ((F (k + 1) : Nat) : Int)) (b := 78) dX3_kindAt_107 (by decide) (by omega) (fun h107 => ?_) (fun h107 => ?_)
                  · refine lv_iload_n C.1 C.2.1 dX3_kindAt_120 rfl (lv_at hl 0 rfl) ?_
                    refine lv_sipush (v := zI 200) C.1 C.2.1 dX3_kindAt_121 (by decide) ?_
                    refine y_icmp_ne (tgt := 133) C (a := ((F (k + 1) : Nat) : Int)) (b := 200) dX3_kindAt_124 (by decide) (by omega) (fun h124 => ?_) (fun h124 => ?_)
                    · refine lv_iload_n C.1 C.2.1 dX3_kindAt_133 rfl (lv_at hl 0 rfl) ?_
                      exact hret _ _ _ _ (zI ((F (k + 1) : Nat) : Int)) hS ⟨congrArg (fun x : Int => some (zV x)) (by unfold kdC; (repeat' split) <;> omega), rfl⟩ rfl dX3_kindAt_134
                    · refine lv_sipush (v := zI 167) C.1 C.2.1 dX3_kindAt_127 (by decide) ?_
                      refine lv_goto (tgt := 134) C.1 C.2.1 dX3_kindAt_130 (by decide) ?_
                      exact hret _ _ _ _ (zI 167) hS ⟨congrArg (fun x : Int => some (zV x)) (by unfold kdC; (repeat' split) <;> omega), rfl⟩ rfl dX3_kindAt_134
                  · refine lv_bipush (v := zI 54) C.1 C.2.1 dX3_kindAt_110 (by decide) ?_
                    refine lv_iload_n C.1 C.2.1 dX3_kindAt_112 rfl (lv_at hl 0 rfl) ?_
                    refine lv_bipush (v := zI 59) C.1 C.2.1 dX3_kindAt_113 (by decide) ?_
                    refine y_isub C (a := ((F (k + 1) : Nat) : Int)) (b := 59) dX3_kindAt_115 ?_
                    refine z_re (y := zI ((ocC F k - 59 : Nat) : Int)) (zI_c (by omega)) ?_
                    refine lv_iconst (v := zI 4) C.1 C.2.1 dX3_kindAt_116 (by decide) ?_
                    refine lv_idiv C.1 C.2.1 dX3_kindAt_117 (by decide) ?_
                    refine z_re (y := zI (((ocC F k - 59) / 4 : Nat) : Int)) (div4 (by omega)) ?_
                    refine y_iaddN C (a := 54) (b := (ocC F k - 59) / 4) dX3_kindAt_118 ?_
                    exact hret _ _ _ _ (zI ((54 + ((ocC F k - 59) / 4) : Nat) : Int)) hS ⟨congrArg (fun x : Int => some (zV x)) (by unfold kdC; (repeat' split) <;> omega), rfl⟩ rfl dX3_kindAt_119
              · refine lv_iload_n C.1 C.2.1 dX3_kindAt_82 rfl (lv_at hl 0 rfl) ?_
                refine lv_bipush (v := zI 45) C.1 C.2.1 dX3_kindAt_83 (by decide) ?_
                refine y_icmp_gt (tgt := 98) C (a := ((F (k + 1) : Nat) : Int)) (b := 45) dX3_kindAt_85 (by decide) (by omega) (fun h85 => ?_) (fun h85 => ?_)
                · refine lv_iload_n C.1 C.2.1 dX3_kindAt_98 rfl (lv_at hl 0 rfl) ?_
                  refine lv_bipush (v := zI 59) C.1 C.2.1 dX3_kindAt_99 (by decide) ?_
                  refine y_icmp_lt (tgt := 120) C (a := ((F (k + 1) : Nat) : Int)) (b := 59) dX3_kindAt_101 (by decide) (by omega) (fun h101 => ?_) (fun h101 => ?_)
                  · refine lv_iload_n C.1 C.2.1 dX3_kindAt_120 rfl (lv_at hl 0 rfl) ?_
                    refine lv_sipush (v := zI 200) C.1 C.2.1 dX3_kindAt_121 (by decide) ?_
                    refine y_icmp_ne (tgt := 133) C (a := ((F (k + 1) : Nat) : Int)) (b := 200) dX3_kindAt_124 (by decide) (by omega) (fun h124 => ?_) (fun h124 => ?_)
                    · refine lv_iload_n C.1 C.2.1 dX3_kindAt_133 rfl (lv_at hl 0 rfl) ?_
                      exact hret _ _ _ _ (zI ((F (k + 1) : Nat) : Int)) hS ⟨congrArg (fun x : Int => some (zV x)) (by unfold kdC; (repeat' split) <;> omega), rfl⟩ rfl dX3_kindAt_134
                    · refine lv_sipush (v := zI 167) C.1 C.2.1 dX3_kindAt_127 (by decide) ?_
                      refine lv_goto (tgt := 134) C.1 C.2.1 dX3_kindAt_130 (by decide) ?_
                      exact hret _ _ _ _ (zI 167) hS ⟨congrArg (fun x : Int => some (zV x)) (by unfold kdC; (repeat' split) <;> omega), rfl⟩ rfl dX3_kindAt_134
                  · refine lv_iload_n C.1 C.2.1 dX3_kindAt_104 rfl (lv_at hl 0 rfl) ?_
                    refine lv_bipush (v := zI 78) C.1 C.2.1 dX3_kindAt_105 (by decide) ?_
                    refine y_icmp_gt (tgt := 120) C (a := ((F (k + 1) : Nat) : Int)) (b := 78) dX3_kindAt_107 (by decide) (by omega) (fun h107 => ?_) (fun h107 => ?_)
                    · refine lv_iload_n C.1 C.2.1 dX3_kindAt_120 rfl (lv_at hl 0 rfl) ?_
                      refine lv_sipush (v := zI 200) C.1 C.2.1 dX3_kindAt_121 (by decide) ?_
                      refine y_icmp_ne (tgt := 133) C (a := ((F (k + 1) : Nat) : Int)) (b := 200) dX3_kindAt_124 (by decide) (by omega) (fun h124 => ?_) (fun h124 => ?_)
                      · refine lv_iload_n C.1 C.2.1 dX3_kindAt_133 rfl (lv_at hl 0 rfl) ?_
                        exact hret _ _ _ _ (zI ((F (k + 1) : Nat) : Int)) hS ⟨congrArg (fun x : Int => some (zV x)) (by unfold kdC; (repeat' split) <;> omega), rfl⟩ rfl dX3_kindAt_134
                      · refine lv_sipush (v := zI 167) C.1 C.2.1 dX3_kindAt_127 (by decide) ?_
                        refine lv_goto (tgt := 134) C.1 C.2.1 dX3_kindAt_130 (by decide) ?_
                        exact hret _ _ _ _ (zI 167) hS ⟨congrArg (fun x : Int => some (zV x)) (by unfold kdC; (repeat' split) <;> omega), rfl⟩ rfl dX3_kindAt_134
                    · refine lv_bipush (v := zI 54) C.1 C.2.1 dX3_kindAt_110 (by decide) ?_
                      refine lv_iload_n C.1 C.2.1 dX3_kindAt_112 rfl (lv_at hl 0 rfl) ?_
                      refine lv_bipush (v := zI 59) C.1 C.2.1 dX3_kindAt_113 (by decide) ?_
                      refine y_isub C (a := ((F (k + 1) : Nat) : Int)) (b := 59) dX3_kindAt_115 ?_
                      refine z_re (y := zI ((ocC F k - 59 : Nat) : Int)) (zI_c (by omega)) ?_
                      refine lv_iconst (v := zI 4) C.1 C.2.1 dX3_kindAt_116 (by decide) ?_
                      refine lv_idiv C.1 C.2.1 dX3_kindAt_117 (by decide) ?_
                      refine z_re (y := zI (((ocC F k - 59) / 4 : Nat) : Int)) (div4 (by omega)) ?_
                      refine y_iaddN C (a := 54) (b := (ocC F k - 59) / 4) dX3_kindAt_118 ?_
                      exact hret _ _ _ _ (zI ((54 + ((ocC F k - 59) / 4) : Nat) : Int)) hS ⟨congrArg (fun x : Int => some (zV x)) (by unfold kdC; (repeat' split) <;> omega), rfl⟩ rfl dX3_kindAt_119
                · refine lv_bipush (v := zI 21) C.1 C.2.1 dX3_kindAt_88 (by decide) ?_
                  refine lv_iload_n C.1 C.2.1 dX3_kindAt_90 rfl (lv_at hl 0 rfl) ?_
                  refine lv_bipush (v := zI 26) C.1 C.2.1 dX3_kindAt_91 (by decide) ?_
                  refine y_isub C (a := ((F (k + 1) : Nat) : Int)) (b := 26) dX3_kindAt_93 ?_
                  refine z_re (y := zI ((ocC F k - 26 : Nat) : Int)) (zI_c (by omega)) ?_
                  refine lv_iconst (v := zI 4) C.1 C.2.1 dX3_kindAt_94 (by decide) ?_
                  refine lv_idiv C.1 C.2.1 dX3_kindAt_95 (by decide) ?_
                  refine z_re (y := zI (((ocC F k - 26) / 4 : Nat) : Int)) (div4 (by omega)) ?_
                  refine y_iaddN C (a := 21) (b := (ocC F k - 26) / 4) dX3_kindAt_96 ?_
                  exact hret _ _ _ _ (zI ((21 + ((ocC F k - 26) / 4) : Nat) : Int)) hS ⟨congrArg (fun x : Int => some (zV x)) (by unfold kdC; (repeat' split) <;> omega), rfl⟩ rfl dX3_kindAt_97
            · refine lv_sipush (v := zI 301) C.1 C.2.1 dX3_kindAt_72 (by decide) ?_
              exact hret _ _ _ _ (zI 301) hS ⟨congrArg (fun x : Int => some (zV x)) (by unfold kdC; (repeat' split) <;> omega), rfl⟩ rfl dX3_kindAt_75
      · refine lv_iload_n C.1 C.2.1 dX3_kindAt_44 rfl (lv_at hl 0 rfl) ?_
        refine lv_bipush (v := zI 19) C.1 C.2.1 dX3_kindAt_45 (by decide) ?_
        refine y_icmp_gt (tgt := 54) C (a := ((F (k + 1) : Nat) : Int)) (b := 19) dX3_kindAt_47 (by decide) (by omega) (fun h47 => ?_) (fun h47 => ?_)
        · refine lv_iload_n C.1 C.2.1 dX3_kindAt_54 rfl (lv_at hl 0 rfl) ?_
          refine lv_bipush (v := zI 9) C.1 C.2.1 dX3_kindAt_55 (by decide) ?_
          refine y_icmp_eq (tgt := 72) C (a := ((F (k + 1) : Nat) : Int)) (b := 9) dX3_kindAt_57 (by decide) (by omega) (fun h57 => ?_) (fun h57 => ?_)
          · refine lv_sipush (v := zI 301) C.1 C.2.1 dX3_kindAt_72 (by decide) ?_
            exact hret _ _ _ _ (zI 301) hS ⟨congrArg (fun x : Int => some (zV x)) (by unfold kdC; (repeat' split) <;> omega), rfl⟩ rfl dX3_kindAt_75
          · refine lv_iload_n C.1 C.2.1 dX3_kindAt_60 rfl (lv_at hl 0 rfl) ?_
            refine lv_bipush (v := zI 10) C.1 C.2.1 dX3_kindAt_61 (by decide) ?_
            refine y_icmp_eq (tgt := 72) C (a := ((F (k + 1) : Nat) : Int)) (b := 10) dX3_kindAt_63 (by decide) (by omega) (fun h63 => ?_) (fun h63 => ?_)
            · refine lv_sipush (v := zI 301) C.1 C.2.1 dX3_kindAt_72 (by decide) ?_
              exact hret _ _ _ _ (zI 301) hS ⟨congrArg (fun x : Int => some (zV x)) (by unfold kdC; (repeat' split) <;> omega), rfl⟩ rfl dX3_kindAt_75
            · refine lv_iload_n C.1 C.2.1 dX3_kindAt_66 rfl (lv_at hl 0 rfl) ?_
              refine lv_bipush (v := zI 20) C.1 C.2.1 dX3_kindAt_67 (by decide) ?_
              refine y_icmp_ne (tgt := 76) C (a := ((F (k + 1) : Nat) : Int)) (b := 20) dX3_kindAt_69 (by decide) (by omega) (fun h69 => ?_) (fun h69 => ?_)
              · refine lv_iload_n C.1 C.2.1 dX3_kindAt_76 rfl (lv_at hl 0 rfl) ?_
                refine lv_bipush (v := zI 26) C.1 C.2.1 dX3_kindAt_77 (by decide) ?_
                refine y_icmp_lt (tgt := 98) C (a := ((F (k + 1) : Nat) : Int)) (b := 26) dX3_kindAt_79 (by decide) (by omega) (fun h79 => ?_) (fun h79 => ?_)
                · refine lv_iload_n C.1 C.2.1 dX3_kindAt_98 rfl (lv_at hl 0 rfl) ?_
                  refine lv_bipush (v := zI 59) C.1 C.2.1 dX3_kindAt_99 (by decide) ?_
                  refine y_icmp_lt (tgt := 120) C (a := ((F (k + 1) : Nat) : Int)) (b := 59) dX3_kindAt_101 (by decide) (by omega) (fun h101 => ?_) (fun h101 => ?_)
                  · refine lv_iload_n C.1 C.2.1 dX3_kindAt_120 rfl (lv_at hl 0 rfl) ?_
                    refine lv_sipush (v := zI 200) C.1 C.2.1 dX3_kindAt_121 (by decide) ?_
                    refine y_icmp_ne (tgt := 133) C (a := ((F (k + 1) : Nat) : Int)) (b := 200) dX3_kindAt_124 (by decide) (by omega) (fun h124 => ?_) (fun h124 => ?_)
                    · refine lv_iload_n C.1 C.2.1 dX3_kindAt_133 rfl (lv_at hl 0 rfl) ?_
                      exact hret _ _ _ _ (zI ((F (k + 1) : Nat) : Int)) hS ⟨congrArg (fun x : Int => some (zV x)) (by unfold kdC; (repeat' split) <;> omega), rfl⟩ rfl dX3_kindAt_134
                    · refine lv_sipush (v := zI 167) C.1 C.2.1 dX3_kindAt_127 (by decide) ?_
                      refine lv_goto (tgt := 134) C.1 C.2.1 dX3_kindAt_130 (by decide) ?_
                      exact hret _ _ _ _ (zI 167) hS ⟨congrArg (fun x : Int => some (zV x)) (by unfold kdC; (repeat' split) <;> omega), rfl⟩ rfl dX3_kindAt_134
                  · refine lv_iload_n C.1 C.2.1 dX3_kindAt_104 rfl (lv_at hl 0 rfl) ?_
                    refine lv_bipush (v := zI 78) C.1 C.2.1 dX3_kindAt_105 (by decide) ?_
                    refine y_icmp_gt (tgt := 120) C (a := ((F (k + 1) : Nat) : Int)) (b := 78) dX3_kindAt_107 (by decide) (by omega) (fun h107 => ?_) (fun h107 => ?_)
                    · refine lv_iload_n C.1 C.2.1 dX3_kindAt_120 rfl (lv_at hl 0 rfl) ?_
                      refine lv_sipush (v := zI 200) C.1 C.2.1 dX3_kindAt_121 (by decide) ?_
                      refine y_icmp_ne (tgt := 133) C (a := ((F (k + 1) : Nat) : Int)) (b := 200) dX3_kindAt_124 (by decide) (by omega) (fun h124 => ?_) (fun h124 => ?_)
                      · refine lv_iload_n C.1 C.2.1 dX3_kindAt_133 rfl (lv_at hl 0 rfl) ?_
                        exact hret _ _ _ _ (zI ((F (k + 1) : Nat) : Int)) hS ⟨congrArg (fun x : Int => some (zV x)) (by unfold kdC; (repeat' split) <;> omega), rfl⟩ rfl dX3_kindAt_134
                      · refine lv_sipush (v := zI 167) C.1 C.2.1 dX3_kindAt_127 (by decide) ?_
                        refine lv_goto (tgt := 134) C.1 C.2.1 dX3_kindAt_130 (by decide) ?_
                        exact hret _ _ _ _ (zI 167) hS ⟨congrArg (fun x : Int => some (zV x)) (by unfold kdC; (repeat' split) <;> omega), rfl⟩ rfl dX3_kindAt_134
                    · refine lv_bipush (v := zI 54) C.1 C.2.1 dX3_kindAt_110 (by decide) ?_
                      refine lv_iload_n C.1 C.2.1 dX3_kindAt_112 rfl (lv_at hl 0 rfl) ?_
                      refine lv_bipush (v := zI 59) C.1 C.2.1 dX3_kindAt_113 (by decide) ?_
                      refine y_isub C (a := ((F (k + 1) : Nat) : Int)) (b := 59) dX3_kindAt_115 ?_
                      refine z_re (y := zI ((ocC F k - 59 : Nat) : Int)) (zI_c (by omega)) ?_
                      refine lv_iconst (v := zI 4) C.1 C.2.1 dX3_kindAt_116 (by decide) ?_
                      refine lv_idiv C.1 C.2.1 dX3_kindAt_117 (by decide) ?_
                      refine z_re (y := zI (((ocC F k - 59) / 4 : Nat) : Int)) (div4 (by omega)) ?_
                      refine y_iaddN C (a := 54) (b := (ocC F k - 59) / 4) dX3_kindAt_118 ?_
                      exact hret _ _ _ _ (zI ((54 + ((ocC F k - 59) / 4) : Nat) : Int)) hS ⟨congrArg (fun x : Int => some (zV x)) (by unfold kdC; (repeat' split) <;> omega), rfl⟩ rfl dX3_kindAt_119
                · refine lv_iload_n C.1 C.2.1 dX3_kindAt_82 rfl (lv_at hl 0 rfl) ?_
                  refine lv_bipush (v := zI 45) C.1 C.2.1 dX3_kindAt_83 (by decide) ?_
                  refine y_icmp_gt (tgt := 98) C (a := ((F (k + 1) : Nat) : Int)) (b := 45) dX3_kindAt_85 (by decide) (by omega) (fun h85 => ?_) (fun h85 => ?_)
                  · refine lv_iload_n C.1 C.2.1 dX3_kindAt_98 rfl (lv_at hl 0 rfl) ?_
                    refine lv_bipush (v := zI 59) C.1 C.2.1 dX3_kindAt_99 (by decide) ?_
                    refine y_icmp_lt (tgt := 120) C (a := ((F (k + 1) : Nat) : Int)) (b := 59) dX3_kindAt_101 (by decide) (by omega) (fun h101 => ?_) (fun h101 => ?_)
                    · refine lv_iload_n C.1 C.2.1 dX3_kindAt_120 rfl (lv_at hl 0 rfl) ?_
                      refine lv_sipush (v := zI 200) C.1 C.2.1 dX3_kindAt_121 (by decide) ?_
                      refine y_icmp_ne (tgt := 133) C (a := ((F (k + 1) : Nat) : Int)) (b := 200) dX3_kindAt_124 (by decide) (by omega) (fun h124 => ?_) (fun h124 => ?_)
                      · refine lv_iload_n C.1 C.2.1 dX3_kindAt_133 rfl (lv_at hl 0 rfl) ?_
                        exact hret _ _ _ _ (zI ((F (k + 1) : Nat) : Int)) hS ⟨congrArg (fun x : Int => some (zV x)) (by unfold kdC; (repeat' split) <;> omega), rfl⟩ rfl dX3_kindAt_134
                      · refine lv_sipush (v := zI 167) C.1 C.2.1 dX3_kindAt_127 (by decide) ?_
                        refine lv_goto (tgt := 134) C.1 C.2.1 dX3_kindAt_130 (by decide) ?_
                        exact hret _ _ _ _ (zI 167) hS ⟨congrArg (fun x : Int => some (zV x)) (by unfold kdC; (repeat' split) <;> omega), rfl⟩ rfl dX3_kindAt_134
                    · refine lv_iload_n C.1 C.2.1 dX3_kindAt_104 rfl (lv_at hl 0 rfl) ?_
                      refine lv_bipush (v := zI 78) C.1 C.2.1 dX3_kindAt_105 (by decide) ?_
                      refine y_icmp_gt (tgt := 120) C (a := ((F (k + 1) : Nat) : Int)) (b := 78) dX3_kindAt_107 (by decide) (by omega) (fun h107 => ?_) (fun h107 => ?_)
                      · refine lv_iload_n C.1 C.2.1 dX3_kindAt_120 rfl (lv_at hl 0 rfl) ?_
                        refine lv_sipush (v := zI 200) C.1 C.2.1 dX3_kindAt_121 (by decide) ?_
                        refine y_icmp_ne (tgt := 133) C (a := ((F (k + 1) : Nat) : Int)) (b := 200) dX3_kindAt_124 (by decide) (by omega) (fun h124 => ?_) (fun h124 => ?_)
                        · refine lv_iload_n C.1 C.2.1 dX3_kindAt_133 rfl (lv_at hl 0 rfl) ?_
                          exact hret _ _ _ _ (zI ((F (k + 1) : Nat) : Int)) hS ⟨congrArg (fun x : Int => some (zV x)) (by unfold kdC; (repeat' split) <;> omega), rfl⟩ rfl dX3_kindAt_134
                        · refine lv_sipush (v := zI 167) C.1 C.2.1 dX3_kindAt_127 (by decide) ?_
                          refine lv_goto (tgt := 134) C.1 C.2.1 dX3_kindAt_130 (by decide) ?_
                          exact hret _ _ _ _ (zI 167) hS ⟨congrArg (fun x : Int => some (zV x)) (by unfold kdC; (repeat' split) <;> omega), rfl⟩ rfl dX3_kindAt_134
                      · refine lv_bipush (v := zI 54) C.1 C.2.1 dX3_kindAt_110 (by decide) ?_
                        refine lv_iload_n C.1 C.2.1 dX3_kindAt_112 rfl (lv_at hl 0 rfl) ?_
                        refine lv_bipush (v := zI 59) C.1 C.2.1 dX3_kindAt_113 (by decide) ?_
                        refine y_isub C (a := ((F (k + 1) : Nat) : Int)) (b := 59) dX3_kindAt_115 ?_
                        refine z_re (y := zI ((ocC F k - 59 : Nat) : Int)) (zI_c (by omega)) ?_
                        refine lv_iconst (v := zI 4) C.1 C.2.1 dX3_kindAt_116 (by decide) ?_
                        refine lv_idiv C.1 C.2.1 dX3_kindAt_117 (by decide) ?_
                        refine z_re (y := zI (((ocC F k - 59) / 4 : Nat) : Int)) (div4 (by omega)) ?_
                        refine y_iaddN C (a := 54) (b := (ocC F k - 59) / 4) dX3_kindAt_118 ?_
                        exact hret _ _ _ _ (zI ((54 + ((ocC F k - 59) / 4) : Nat) : Int)) hS ⟨congrArg (fun x : Int => some (zV x)) (by unfold kdC; (repeat' split) <;> omega), rfl⟩ rfl dX3_kindAt_119
                  · refine lv_bipush (v := zI 21) C.1 C.2.1 dX3_kindAt_88 (by decide) ?_
                    refine lv_iload_n C.1 C.2.1 dX3_kindAt_90 rfl (lv_at hl 0 rfl) ?_
                    refine lv_bipush (v := zI 26) C.1 C.2.1 dX3_kindAt_91 (by decide) ?_
                    refine y_isub C (a := ((F (k + 1) : Nat) : Int)) (b := 26) dX3_kindAt_93 ?_
                    refine z_re (y := zI ((ocC F k - 26 : Nat) : Int)) (zI_c (by omega)) ?_
                    refine lv_iconst (v := zI 4) C.1 C.2.1 dX3_kindAt_94 (by decide) ?_
                    refine lv_idiv C.1 C.2.1 dX3_kindAt_95 (by decide) ?_
                    refine z_re (y := zI (((ocC F k - 26) / 4 : Nat) : Int)) (div4 (by omega)) ?_
                    refine y_iaddN C (a := 21) (b := (ocC F k - 26) / 4) dX3_kindAt_96 ?_
                    exact hret _ _ _ _ (zI ((21 + ((ocC F k - 26) / 4) : Nat) : Int)) hS ⟨congrArg (fun x : Int => some (zV x)) (by unfold kdC; (repeat' split) <;> omega), rfl⟩ rfl dX3_kindAt_97
              · refine lv_sipush (v := zI 301) C.1 C.2.1 dX3_kindAt_72 (by decide) ?_
                exact hret _ _ _ _ (zI 301) hS ⟨congrArg (fun x : Int => some (zV x)) (by unfold kdC; (repeat' split) <;> omega), rfl⟩ rfl dX3_kindAt_75
        · refine lv_sipush (v := zI 300) C.1 C.2.1 dX3_kindAt_50 (by decide) ?_
          exact hret _ _ _ _ (zI 300) hS ⟨congrArg (fun x : Int => some (zV x)) (by unfold kdC; (repeat' split) <;> omega), rfl⟩ rfl dX3_kindAt_53
    · refine lv_iload_n C.1 C.2.1 dX3_kindAt_32 rfl (lv_at hl 0 rfl) ?_
      refine lv_bipush (v := zI 8) C.1 C.2.1 dX3_kindAt_33 (by decide) ?_
      refine y_icmp_le (tgt := 50) C (a := ((F (k + 1) : Nat) : Int)) (b := 8) dX3_kindAt_35 (by decide) (by omega) (fun h35 => ?_) (fun h35 => ?_)
      · refine lv_sipush (v := zI 300) C.1 C.2.1 dX3_kindAt_50 (by decide) ?_
        exact hret _ _ _ _ (zI 300) hS ⟨congrArg (fun x : Int => some (zV x)) (by unfold kdC; (repeat' split) <;> omega), rfl⟩ rfl dX3_kindAt_53
      · refine lv_iload_n C.1 C.2.1 dX3_kindAt_38 rfl (lv_at hl 0 rfl) ?_
        refine lv_bipush (v := zI 16) C.1 C.2.1 dX3_kindAt_39 (by decide) ?_
        refine y_icmp_lt (tgt := 54) C (a := ((F (k + 1) : Nat) : Int)) (b := 16) dX3_kindAt_41 (by decide) (by omega) (fun h41 => ?_) (fun h41 => ?_)
        · refine lv_iload_n C.1 C.2.1 dX3_kindAt_54 rfl (lv_at hl 0 rfl) ?_
          refine lv_bipush (v := zI 9) C.1 C.2.1 dX3_kindAt_55 (by decide) ?_
          refine y_icmp_eq (tgt := 72) C (a := ((F (k + 1) : Nat) : Int)) (b := 9) dX3_kindAt_57 (by decide) (by omega) (fun h57 => ?_) (fun h57 => ?_)
          · refine lv_sipush (v := zI 301) C.1 C.2.1 dX3_kindAt_72 (by decide) ?_
            exact hret _ _ _ _ (zI 301) hS ⟨congrArg (fun x : Int => some (zV x)) (by unfold kdC; (repeat' split) <;> omega), rfl⟩ rfl dX3_kindAt_75
          · refine lv_iload_n C.1 C.2.1 dX3_kindAt_60 rfl (lv_at hl 0 rfl) ?_
            refine lv_bipush (v := zI 10) C.1 C.2.1 dX3_kindAt_61 (by decide) ?_
            refine y_icmp_eq (tgt := 72) C (a := ((F (k + 1) : Nat) : Int)) (b := 10) dX3_kindAt_63 (by decide) (by omega) (fun h63 => ?_) (fun h63 => ?_)
            · refine lv_sipush (v := zI 301) C.1 C.2.1 dX3_kindAt_72 (by decide) ?_
              exact hret _ _ _ _ (zI 301) hS ⟨congrArg (fun x : Int => some (zV x)) (by unfold kdC; (repeat' split) <;> omega), rfl⟩ rfl dX3_kindAt_75
            · refine lv_iload_n C.1 C.2.1 dX3_kindAt_66 rfl (lv_at hl 0 rfl) ?_
              refine lv_bipush (v := zI 20) C.1 C.2.1 dX3_kindAt_67 (by decide) ?_
              refine y_icmp_ne (tgt := 76) C (a := ((F (k + 1) : Nat) : Int)) (b := 20) dX3_kindAt_69 (by decide) (by omega) (fun h69 => ?_) (fun h69 => ?_)
              · refine lv_iload_n C.1 C.2.1 dX3_kindAt_76 rfl (lv_at hl 0 rfl) ?_
                refine lv_bipush (v := zI 26) C.1 C.2.1 dX3_kindAt_77 (by decide) ?_
                refine y_icmp_lt (tgt := 98) C (a := ((F (k + 1) : Nat) : Int)) (b := 26) dX3_kindAt_79 (by decide) (by omega) (fun h79 => ?_) (fun h79 => ?_)
                · refine lv_iload_n C.1 C.2.1 dX3_kindAt_98 rfl (lv_at hl 0 rfl) ?_
                  refine lv_bipush (v := zI 59) C.1 C.2.1 dX3_kindAt_99 (by decide) ?_
                  refine y_icmp_lt (tgt := 120) C (a := ((F (k + 1) : Nat) : Int)) (b := 59) dX3_kindAt_101 (by decide) (by omega) (fun h101 => ?_) (fun h101 => ?_)
                  · refine lv_iload_n C.1 C.2.1 dX3_kindAt_120 rfl (lv_at hl 0 rfl) ?_
                    refine lv_sipush (v := zI 200) C.1 C.2.1 dX3_kindAt_121 (by decide) ?_
                    refine y_icmp_ne (tgt := 133) C (a := ((F (k + 1) : Nat) : Int)) (b := 200) dX3_kindAt_124 (by decide) (by omega) (fun h124 => ?_) (fun h124 => ?_)
                    · refine lv_iload_n C.1 C.2.1 dX3_kindAt_133 rfl (lv_at hl 0 rfl) ?_
                      exact hret _ _ _ _ (zI ((F (k + 1) : Nat) : Int)) hS ⟨congrArg (fun x : Int => some (zV x)) (by unfold kdC; (repeat' split) <;> omega), rfl⟩ rfl dX3_kindAt_134
                    · refine lv_sipush (v := zI 167) C.1 C.2.1 dX3_kindAt_127 (by decide) ?_
                      refine lv_goto (tgt := 134) C.1 C.2.1 dX3_kindAt_130 (by decide) ?_
                      exact hret _ _ _ _ (zI 167) hS ⟨congrArg (fun x : Int => some (zV x)) (by unfold kdC; (repeat' split) <;> omega), rfl⟩ rfl dX3_kindAt_134
                  · refine lv_iload_n C.1 C.2.1 dX3_kindAt_104 rfl (lv_at hl 0 rfl) ?_
                    refine lv_bipush (v := zI 78) C.1 C.2.1 dX3_kindAt_105 (by decide) ?_
                    refine y_icmp_gt (tgt := 120) C (a := ((F (k + 1) : Nat) : Int)) (b := 78) dX3_kindAt_107 (by decide) (by omega) (fun h107 => ?_) (fun h107 => ?_)
                    · refine lv_iload_n C.1 C.2.1 dX3_kindAt_120 rfl (lv_at hl 0 rfl) ?_
                      refine lv_sipush (v := zI 200) C.1 C.2.1 dX3_kindAt_121 (by decide) ?_
                      refine y_icmp_ne (tgt := 133) C (a := ((F (k + 1) : Nat) : Int)) (b := 200) dX3_kindAt_124 (by decide) (by omega) (fun h124 => ?_) (fun h124 => ?_)
                      · refine lv_iload_n C.1 C.2.1 dX3_kindAt_133 rfl (lv_at hl 0 rfl) ?_
                        exact hret _ _ _ _ (zI ((F (k + 1) : Nat) : Int)) hS ⟨congrArg (fun x : Int => some (zV x)) (by unfold kdC; (repeat' split) <;> omega), rfl⟩ rfl dX3_kindAt_134
                      · refine lv_sipush (v := zI 167) C.1 C.2.1 dX3_kindAt_127 (by decide) ?_
                        refine lv_goto (tgt := 134) C.1 C.2.1 dX3_kindAt_130 (by decide) ?_
                        exact hret _ _ _ _ (zI 167) hS ⟨congrArg (fun x : Int => some (zV x)) (by unfold kdC; (repeat' split) <;> omega), rfl⟩ rfl dX3_kindAt_134
                    · refine lv_bipush (v := zI 54) C.1 C.2.1 dX3_kindAt_110 (by decide) ?_
                      refine lv_iload_n C.1 C.2.1 dX3_kindAt_112 rfl (lv_at hl 0 rfl) ?_
                      refine lv_bipush (v := zI 59) C.1 C.2.1 dX3_kindAt_113 (by decide) ?_
                      refine y_isub C (a := ((F (k + 1) : Nat) : Int)) (b := 59) dX3_kindAt_115 ?_
                      refine z_re (y := zI ((ocC F k - 59 : Nat) : Int)) (zI_c (by omega)) ?_
                      refine lv_iconst (v := zI 4) C.1 C.2.1 dX3_kindAt_116 (by decide) ?_
                      refine lv_idiv C.1 C.2.1 dX3_kindAt_117 (by decide) ?_
                      refine z_re (y := zI (((ocC F k - 59) / 4 : Nat) : Int)) (div4 (by omega)) ?_
                      refine y_iaddN C (a := 54) (b := (ocC F k - 59) / 4) dX3_kindAt_118 ?_
                      exact hret _ _ _ _ (zI ((54 + ((ocC F k - 59) / 4) : Nat) : Int)) hS ⟨congrArg (fun x : Int => some (zV x)) (by unfold kdC; (repeat' split) <;> omega), rfl⟩ rfl dX3_kindAt_119
                · refine lv_iload_n C.1 C.2.1 dX3_kindAt_82 rfl (lv_at hl 0 rfl) ?_
                  refine lv_bipush (v := zI 45) C.1 C.2.1 dX3_kindAt_83 (by decide) ?_
                  refine y_icmp_gt (tgt := 98) C (a := ((F (k + 1) : Nat) : Int)) (b := 45) dX3_kindAt_85 (by decide) (by omega) (fun h85 => ?_) (fun h85 => ?_)
                  · refine lv_iload_n C.1 C.2.1 dX3_kindAt_98 rfl (lv_at hl 0 rfl) ?_
                    refine lv_bipush (v := zI 59) C.1 C.2.1 dX3_kindAt_99 (by decide) ?_
                    refine y_icmp_lt (tgt := 120) C (a := ((F (k + 1) : Nat) : Int)) (b := 59) dX3_kindAt_101 (by decide) (by omega) (fun h101 => ?_) (fun h101 => ?_)
                    · refine lv_iload_n C.1 C.2.1 dX3_kindAt_120 rfl (lv_at hl 0 rfl) ?_
                      refine lv_sipush (v := zI 200) C.1 C.2.1 dX3_kindAt_121 (by decide) ?_
                      refine y_icmp_ne (tgt := 133) C (a := ((F (k + 1) : Nat) : Int)) (b := 200) dX3_kindAt_124 (by decide) (by omega) (fun h124 => ?_) (fun h124 => ?_)
                      · refine lv_iload_n C.1 C.2.1 dX3_kindAt_133 rfl (lv_at hl 0 rfl) ?_
                        exact hret _ _ _ _ (zI ((F (k + 1) : Nat) : Int)) hS ⟨congrArg (fun x : Int => some (zV x)) (by unfold kdC; (repeat' split) <;> omega), rfl⟩ rfl dX3_kindAt_134
                      · refine lv_sipush (v := zI 167) C.1 C.2.1 dX3_kindAt_127 (by decide) ?_
                        refine lv_goto (tgt := 134) C.1 C.2.1 dX3_kindAt_130 (by decide) ?_
                        exact hret _ _ _ _ (zI 167) hS ⟨congrArg (fun x : Int => some (zV x)) (by unfold kdC; (repeat' split) <;> omega), rfl⟩ rfl dX3_kindAt_134
                    · refine lv_iload_n C.1 C.2.1 dX3_kindAt_104 rfl (lv_at hl 0 rfl) ?_
                      refine lv_bipush (v := zI 78) C.1 C.2.1 dX3_kindAt_105 (by decide) ?_
                      refine y_icmp_gt (tgt := 120) C (a := ((F (k + 1) : Nat) : Int)) (b := 78) dX3_kindAt_107 (by decide) (by omega) (fun h107 => ?_) (fun h107 => ?_)
                      · refine lv_iload_n C.1 C.2.1 dX3_kindAt_120 rfl (lv_at hl 0 rfl) ?_
                        refine lv_sipush (v := zI 200) C.1 C.2.1 dX3_kindAt_121 (by decide) ?_
                        refine y_icmp_ne (tgt := 133) C (a := ((F (k + 1) : Nat) : Int)) (b := 200) dX3_kindAt_124 (by decide) (by omega) (fun h124 => ?_) (fun h124 => ?_)
                        · refine lv_iload_n C.1 C.2.1 dX3_kindAt_133 rfl (lv_at hl 0 rfl) ?_
                          exact hret _ _ _ _ (zI ((F (k + 1) : Nat) : Int)) hS ⟨congrArg (fun x : Int => some (zV x)) (by unfold kdC; (repeat' split) <;> omega), rfl⟩ rfl dX3_kindAt_134
                        · refine lv_sipush (v := zI 167) C.1 C.2.1 dX3_kindAt_127 (by decide) ?_
                          refine lv_goto (tgt := 134) C.1 C.2.1 dX3_kindAt_130 (by decide) ?_
                          exact hret _ _ _ _ (zI 167) hS ⟨congrArg (fun x : Int => some (zV x)) (by unfold kdC; (repeat' split) <;> omega), rfl⟩ rfl dX3_kindAt_134
                      · refine lv_bipush (v := zI 54) C.1 C.2.1 dX3_kindAt_110 (by decide) ?_
                        refine lv_iload_n C.1 C.2.1 dX3_kindAt_112 rfl (lv_at hl 0 rfl) ?_
                        refine lv_bipush (v := zI 59) C.1 C.2.1 dX3_kindAt_113 (by decide) ?_
                        refine y_isub C (a := ((F (k + 1) : Nat) : Int)) (b := 59) dX3_kindAt_115 ?_
                        refine z_re (y := zI ((ocC F k - 59 : Nat) : Int)) (zI_c (by omega)) ?_
                        refine lv_iconst (v := zI 4) C.1 C.2.1 dX3_kindAt_116 (by decide) ?_
                        refine lv_idiv C.1 C.2.1 dX3_kindAt_117 (by decide) ?_
                        refine z_re (y := zI (((ocC F k - 59) / 4 : Nat) : Int)) (div4 (by omega)) ?_
                        refine y_iaddN C (a := 54) (b := (ocC F k - 59) / 4) dX3_kindAt_118 ?_
                        exact hret _ _ _ _ (zI ((54 + ((ocC F k - 59) / 4) : Nat) : Int)) hS ⟨congrArg (fun x : Int => some (zV x)) (by unfold kdC; (repeat' split) <;> omega), rfl⟩ rfl dX3_kindAt_119
                  · refine lv_bipush (v := zI 21) C.1 C.2.1 dX3_kindAt_88 (by decide) ?_
                    refine lv_iload_n C.1 C.2.1 dX3_kindAt_90 rfl (lv_at hl 0 rfl) ?_
                    refine lv_bipush (v := zI 26) C.1 C.2.1 dX3_kindAt_91 (by decide) ?_
                    refine y_isub C (a := ((F (k + 1) : Nat) : Int)) (b := 26) dX3_kindAt_93 ?_
                    refine z_re (y := zI ((ocC F k - 26 : Nat) : Int)) (zI_c (by omega)) ?_
                    refine lv_iconst (v := zI 4) C.1 C.2.1 dX3_kindAt_94 (by decide) ?_
                    refine lv_idiv C.1 C.2.1 dX3_kindAt_95 (by decide) ?_
                    refine z_re (y := zI (((ocC F k - 26) / 4 : Nat) : Int)) (div4 (by omega)) ?_
                    refine y_iaddN C (a := 21) (b := (ocC F k - 26) / 4) dX3_kindAt_96 ?_
                    exact hret _ _ _ _ (zI ((21 + ((ocC F k - 26) / 4) : Nat) : Int)) hS ⟨congrArg (fun x : Int => some (zV x)) (by unfold kdC; (repeat' split) <;> omega), rfl⟩ rfl dX3_kindAt_97
              · refine lv_sipush (v := zI 301) C.1 C.2.1 dX3_kindAt_72 (by decide) ?_
                exact hret _ _ _ _ (zI 301) hS ⟨congrArg (fun x : Int => some (zV x)) (by unfold kdC; (repeat' split) <;> omega), rfl⟩ rfl dX3_kindAt_75
        · refine lv_iload_n C.1 C.2.1 dX3_kindAt_44 rfl (lv_at hl 0 rfl) ?_
          refine lv_bipush (v := zI 19) C.1 C.2.1 dX3_kindAt_45 (by decide) ?_
          refine y_icmp_gt (tgt := 54) C (a := ((F (k + 1) : Nat) : Int)) (b := 19) dX3_kindAt_47 (by decide) (by omega) (fun h47 => ?_) (fun h47 => ?_)
          · refine lv_iload_n C.1 C.2.1 dX3_kindAt_54 rfl (lv_at hl 0 rfl) ?_
            refine lv_bipush (v := zI 9) C.1 C.2.1 dX3_kindAt_55 (by decide) ?_
            refine y_icmp_eq (tgt := 72) C (a := ((F (k + 1) : Nat) : Int)) (b := 9) dX3_kindAt_57 (by decide) (by omega) (fun h57 => ?_) (fun h57 => ?_)
            · refine lv_sipush (v := zI 301) C.1 C.2.1 dX3_kindAt_72 (by decide) ?_
              exact hret _ _ _ _ (zI 301) hS ⟨congrArg (fun x : Int => some (zV x)) (by unfold kdC; (repeat' split) <;> omega), rfl⟩ rfl dX3_kindAt_75
            · refine lv_iload_n C.1 C.2.1 dX3_kindAt_60 rfl (lv_at hl 0 rfl) ?_
              refine lv_bipush (v := zI 10) C.1 C.2.1 dX3_kindAt_61 (by decide) ?_
              refine y_icmp_eq (tgt := 72) C (a := ((F (k + 1) : Nat) : Int)) (b := 10) dX3_kindAt_63 (by decide) (by omega) (fun h63 => ?_) (fun h63 => ?_)
              · refine lv_sipush (v := zI 301) C.1 C.2.1 dX3_kindAt_72 (by decide) ?_
                exact hret _ _ _ _ (zI 301) hS ⟨congrArg (fun x : Int => some (zV x)) (by unfold kdC; (repeat' split) <;> omega), rfl⟩ rfl dX3_kindAt_75
              · refine lv_iload_n C.1 C.2.1 dX3_kindAt_66 rfl (lv_at hl 0 rfl) ?_
                refine lv_bipush (v := zI 20) C.1 C.2.1 dX3_kindAt_67 (by decide) ?_
                refine y_icmp_ne (tgt := 76) C (a := ((F (k + 1) : Nat) : Int)) (b := 20) dX3_kindAt_69 (by decide) (by omega) (fun h69 => ?_) (fun h69 => ?_)
                · refine lv_iload_n C.1 C.2.1 dX3_kindAt_76 rfl (lv_at hl 0 rfl) ?_
                  refine lv_bipush (v := zI 26) C.1 C.2.1 dX3_kindAt_77 (by decide) ?_
                  refine y_icmp_lt (tgt := 98) C (a := ((F (k + 1) : Nat) : Int)) (b := 26) dX3_kindAt_79 (by decide) (by omega) (fun h79 => ?_) (fun h79 => ?_)
                  · refine lv_iload_n C.1 C.2.1 dX3_kindAt_98 rfl (lv_at hl 0 rfl) ?_
                    refine lv_bipush (v := zI 59) C.1 C.2.1 dX3_kindAt_99 (by decide) ?_
                    refine y_icmp_lt (tgt := 120) C (a := ((F (k + 1) : Nat) : Int)) (b := 59) dX3_kindAt_101 (by decide) (by omega) (fun h101 => ?_) (fun h101 => ?_)
                    · refine lv_iload_n C.1 C.2.1 dX3_kindAt_120 rfl (lv_at hl 0 rfl) ?_
                      refine lv_sipush (v := zI 200) C.1 C.2.1 dX3_kindAt_121 (by decide) ?_
                      refine y_icmp_ne (tgt := 133) C (a := ((F (k + 1) : Nat) : Int)) (b := 200) dX3_kindAt_124 (by decide) (by omega) (fun h124 => ?_) (fun h124 => ?_)
                      · refine lv_iload_n C.1 C.2.1 dX3_kindAt_133 rfl (lv_at hl 0 rfl) ?_
                        exact hret _ _ _ _ (zI ((F (k + 1) : Nat) : Int)) hS ⟨congrArg (fun x : Int => some (zV x)) (by unfold kdC; (repeat' split) <;> omega), rfl⟩ rfl dX3_kindAt_134
                      · refine lv_sipush (v := zI 167) C.1 C.2.1 dX3_kindAt_127 (by decide) ?_
                        refine lv_goto (tgt := 134) C.1 C.2.1 dX3_kindAt_130 (by decide) ?_
                        exact hret _ _ _ _ (zI 167) hS ⟨congrArg (fun x : Int => some (zV x)) (by unfold kdC; (repeat' split) <;> omega), rfl⟩ rfl dX3_kindAt_134
                    · refine lv_iload_n C.1 C.2.1 dX3_kindAt_104 rfl (lv_at hl 0 rfl) ?_
                      refine lv_bipush (v := zI 78) C.1 C.2.1 dX3_kindAt_105 (by decide) ?_
                      refine y_icmp_gt (tgt := 120) C (a := ((F (k + 1) : Nat) : Int)) (b := 78) dX3_kindAt_107 (by decide) (by omega) (fun h107 => ?_) (fun h107 => ?_)
                      · refine lv_iload_n C.1 C.2.1 dX3_kindAt_120 rfl (lv_at hl 0 rfl) ?_
                        refine lv_sipush (v := zI 200) C.1 C.2.1 dX3_kindAt_121 (by decide) ?_
                        refine y_icmp_ne (tgt := 133) C (a := ((F (k + 1) : Nat) : Int)) (b := 200) dX3_kindAt_124 (by decide) (by omega) (fun h124 => ?_) (fun h124 => ?_)
                        · refine lv_iload_n C.1 C.2.1 dX3_kindAt_133 rfl (lv_at hl 0 rfl) ?_
                          exact hret _ _ _ _ (zI ((F (k + 1) : Nat) : Int)) hS ⟨congrArg (fun x : Int => some (zV x)) (by unfold kdC; (repeat' split) <;> omega), rfl⟩ rfl dX3_kindAt_134
                        · refine lv_sipush (v := zI 167) C.1 C.2.1 dX3_kindAt_127 (by decide) ?_
                          refine lv_goto (tgt := 134) C.1 C.2.1 dX3_kindAt_130 (by decide) ?_
                          exact hret _ _ _ _ (zI 167) hS ⟨congrArg (fun x : Int => some (zV x)) (by unfold kdC; (repeat' split) <;> omega), rfl⟩ rfl dX3_kindAt_134
                      · refine lv_bipush (v := zI 54) C.1 C.2.1 dX3_kindAt_110 (by decide) ?_
                        refine lv_iload_n C.1 C.2.1 dX3_kindAt_112 rfl (lv_at hl 0 rfl) ?_
                        refine lv_bipush (v := zI 59) C.1 C.2.1 dX3_kindAt_113 (by decide) ?_
                        refine y_isub C (a := ((F (k + 1) : Nat) : Int)) (b := 59) dX3_kindAt_115 ?_
                        refine z_re (y := zI ((ocC F k - 59 : Nat) : Int)) (zI_c (by omega)) ?_
                        refine lv_iconst (v := zI 4) C.1 C.2.1 dX3_kindAt_116 (by decide) ?_
                        refine lv_idiv C.1 C.2.1 dX3_kindAt_117 (by decide) ?_
                        refine z_re (y := zI (((ocC F k - 59) / 4 : Nat) : Int)) (div4 (by omega)) ?_
                        refine y_iaddN C (a := 54) (b := (ocC F k - 59) / 4) dX3_kindAt_118 ?_
                        exact hret _ _ _ _ (zI ((54 + ((ocC F k - 59) / 4) : Nat) : Int)) hS ⟨congrArg (fun x : Int => some (zV x)) (by unfold kdC; (repeat' split) <;> omega), rfl⟩ rfl dX3_kindAt_119
                  · refine lv_iload_n C.1 C.2.1 dX3_kindAt_82 rfl (lv_at hl 0 rfl) ?_
                    refine lv_bipush (v := zI 45) C.1 C.2.1 dX3_kindAt_83 (by decide) ?_
                    refine y_icmp_gt (tgt := 98) C (a := ((F (k + 1) : Nat) : Int)) (b := 45) dX3_kindAt_85 (by decide) (by omega) (fun h85 => ?_) (fun h85 => ?_)
                    · refine lv_iload_n C.1 C.2.1 dX3_kindAt_98 rfl (lv_at hl 0 rfl) ?_
                      refine lv_bipush (v := zI 59) C.1 C.2.1 dX3_kindAt_99 (by decide) ?_
                      refine y_icmp_lt (tgt := 120) C (a := ((F (k + 1) : Nat) : Int)) (b := 59) dX3_kindAt_101 (by decide) (by omega) (fun h101 => ?_) (fun h101 => ?_)
                      · refine lv_iload_n C.1 C.2.1 dX3_kindAt_120 rfl (lv_at hl 0 rfl) ?_
                        refine lv_sipush (v := zI 200) C.1 C.2.1 dX3_kindAt_121 (by decide) ?_
                        refine y_icmp_ne (tgt := 133) C (a := ((F (k + 1) : Nat) : Int)) (b := 200) dX3_kindAt_124 (by decide) (by omega) (fun h124 => ?_) (fun h124 => ?_)
                        · refine lv_iload_n C.1 C.2.1 dX3_kindAt_133 rfl (lv_at hl 0 rfl) ?_
                          exact hret _ _ _ _ (zI ((F (k + 1) : Nat) : Int)) hS ⟨congrArg (fun x : Int => some (zV x)) (by unfold kdC; (repeat' split) <;> omega), rfl⟩ rfl dX3_kindAt_134
                        · refine lv_sipush (v := zI 167) C.1 C.2.1 dX3_kindAt_127 (by decide) ?_
                          refine lv_goto (tgt := 134) C.1 C.2.1 dX3_kindAt_130 (by decide) ?_
                          exact hret _ _ _ _ (zI 167) hS ⟨congrArg (fun x : Int => some (zV x)) (by unfold kdC; (repeat' split) <;> omega), rfl⟩ rfl dX3_kindAt_134
                      · refine lv_iload_n C.1 C.2.1 dX3_kindAt_104 rfl (lv_at hl 0 rfl) ?_
                        refine lv_bipush (v := zI 78) C.1 C.2.1 dX3_kindAt_105 (by decide) ?_
                        refine y_icmp_gt (tgt := 120) C (a := ((F (k + 1) : Nat) : Int)) (b := 78) dX3_kindAt_107 (by decide) (by omega) (fun h107 => ?_) (fun h107 => ?_)
                        · refine lv_iload_n C.1 C.2.1 dX3_kindAt_120 rfl (lv_at hl 0 rfl) ?_
                          refine lv_sipush (v := zI 200) C.1 C.2.1 dX3_kindAt_121 (by decide) ?_
                          refine y_icmp_ne (tgt := 133) C (a := ((F (k + 1) : Nat) : Int)) (b := 200) dX3_kindAt_124 (by decide) (by omega) (fun h124 => ?_) (fun h124 => ?_)
                          · refine lv_iload_n C.1 C.2.1 dX3_kindAt_133 rfl (lv_at hl 0 rfl) ?_
                            exact hret _ _ _ _ (zI ((F (k + 1) : Nat) : Int)) hS ⟨congrArg (fun x : Int => some (zV x)) (by unfold kdC; (repeat' split) <;> omega), rfl⟩ rfl dX3_kindAt_134
                          · refine lv_sipush (v := zI 167) C.1 C.2.1 dX3_kindAt_127 (by decide) ?_
                            refine lv_goto (tgt := 134) C.1 C.2.1 dX3_kindAt_130 (by decide) ?_
                            exact hret _ _ _ _ (zI 167) hS ⟨congrArg (fun x : Int => some (zV x)) (by unfold kdC; (repeat' split) <;> omega), rfl⟩ rfl dX3_kindAt_134
                        · refine lv_bipush (v := zI 54) C.1 C.2.1 dX3_kindAt_110 (by decide) ?_
                          refine lv_iload_n C.1 C.2.1 dX3_kindAt_112 rfl (lv_at hl 0 rfl) ?_
                          refine lv_bipush (v := zI 59) C.1 C.2.1 dX3_kindAt_113 (by decide) ?_
                          refine y_isub C (a := ((F (k + 1) : Nat) : Int)) (b := 59) dX3_kindAt_115 ?_
                          refine z_re (y := zI ((ocC F k - 59 : Nat) : Int)) (zI_c (by omega)) ?_
                          refine lv_iconst (v := zI 4) C.1 C.2.1 dX3_kindAt_116 (by decide) ?_
                          refine lv_idiv C.1 C.2.1 dX3_kindAt_117 (by decide) ?_
                          refine z_re (y := zI (((ocC F k - 59) / 4 : Nat) : Int)) (div4 (by omega)) ?_
                          refine y_iaddN C (a := 54) (b := (ocC F k - 59) / 4) dX3_kindAt_118 ?_
                          exact hret _ _ _ _ (zI ((54 + ((ocC F k - 59) / 4) : Nat) : Int)) hS ⟨congrArg (fun x : Int => some (zV x)) (by unfold kdC; (repeat' split) <;> omega), rfl⟩ rfl dX3_kindAt_119
                    · refine lv_bipush (v := zI 21) C.1 C.2.1 dX3_kindAt_88 (by decide) ?_
                      refine lv_iload_n C.1 C.2.1 dX3_kindAt_90 rfl (lv_at hl 0 rfl) ?_
                      refine lv_bipush (v := zI 26) C.1 C.2.1 dX3_kindAt_91 (by decide) ?_
                      refine y_isub C (a := ((F (k + 1) : Nat) : Int)) (b := 26) dX3_kindAt_93 ?_
                      refine z_re (y := zI ((ocC F k - 26 : Nat) : Int)) (zI_c (by omega)) ?_
                      refine lv_iconst (v := zI 4) C.1 C.2.1 dX3_kindAt_94 (by decide) ?_
                      refine lv_idiv C.1 C.2.1 dX3_kindAt_95 (by decide) ?_
                      refine z_re (y := zI (((ocC F k - 26) / 4 : Nat) : Int)) (div4 (by omega)) ?_
                      refine y_iaddN C (a := 21) (b := (ocC F k - 26) / 4) dX3_kindAt_96 ?_
                      exact hret _ _ _ _ (zI ((21 + ((ocC F k - 26) / 4) : Nat) : Int)) hS ⟨congrArg (fun x : Int => some (zV x)) (by unfold kdC; (repeat' split) <;> omega), rfl⟩ rfl dX3_kindAt_97
                · refine lv_sipush (v := zI 301) C.1 C.2.1 dX3_kindAt_72 (by decide) ?_
                  exact hret _ _ _ _ (zI 301) hS ⟨congrArg (fun x : Int => some (zV x)) (by unfold kdC; (repeat' split) <;> omega), rfl⟩ rfl dX3_kindAt_75
          · refine lv_sipush (v := zI 300) C.1 C.2.1 dX3_kindAt_50 (by decide) ?_
            exact hret _ _ _ _ (zI 300) hS ⟨congrArg (fun x : Int => some (zV x)) (by unfold kdC; (repeat' split) <;> omega), rfl⟩ rfl dX3_kindAt_53

set_option maxHeartbeats 4000000 in
set_option maxRecDepth 20000 in
theorem c_X3_localAt (l : Launch) (Z : zT) {H : Heap} {ad : Nat → Nat} {τ : mS} {X : List (Nat × va_E)} (hM : isC Z H ad τ X) {F : Nat → Nat} {n : Nat} (hB : cSrc τ F n) {k : Nat} (hk : k + 1 < n) (hk2 : F k = 196 → k + 4 ≤ n) : zP l Z yX3_localAt cX3_localAt 3 (some .int) (rmk 2) [.ref (ad 1), zN k] H (zN (loC F k)) := by
  have hn := hB.2.2.2
  have hFk := hB.1 k
  have hFk1 := hB.1 (k + 1)
  refine zM.introI (own := RX3) ⟨by decide, rfl⟩ (Nat.le_of_ble_eq_true rfl) ?_
  intro p e s m args below meth c Q ls hH C hl hret
  have hS : va_S (fun _ => False) s.heap H [] := by rw [hH]; exact va_S.rf
  have hl : lv_has ls 3 [(0, .ref (ad 1)), (1, zN k)] := hl
  refine lv_aload_n C.1 C.2.1 dX3_localAt_0 rfl (lv_at hl 0 rfl) ?_
  refine lv_iload_n C.1 C.2.1 dX3_localAt_1 rfl (lv_at hl 1 rfl) ?_
  refine z_readV C (As := [zN k]) (rest := []) (c_u1 l Z hM hB k rfl (by omega)) hM.byt rfl ⟨⟨zw_9_12, zw_2_15, zw_21_1⟩, zd_X1_u1⟩ zw_9_10 zw_9_11 ⟨Nat.le_of_ble_eq_true rfl, Nat.le_of_ble_eq_true rfl⟩ ⟨rfl, rfl⟩ rfl hl.1 rfl (Nat.le_of_ble_eq_true rfl) dX3_localAt_2 ⟨Nat.zero_le _, Nat.zero_le _⟩ hS (fun locs hS => ?_)
  have := hB.1 k
  refine lv_istore_n (lv' := [(2, zN (F k)), (0, .ref (ad 1)), (1, zN k)]) C.1 C.2.1 dX3_localAt_5 rfl hl (by decide) rfl (fun ls hl => ?_)
  refine lv_iload_n C.1 C.2.1 dX3_localAt_6 rfl (lv_at hl 0 rfl) ?_
  refine lv_sipush (v := zI 196) C.1 C.2.1 dX3_localAt_7 (by decide) ?_
  refine y_icmp_ne (tgt := 21) C (a := ((F k : Nat) : Int)) (b := 196) dX3_localAt_10 (by decide) (by omega) (fun h10 => ?_) (fun h10 => ?_)
  · refine lv_iload_n C.1 C.2.1 dX3_localAt_21 rfl (lv_at hl 0 rfl) ?_
    refine lv_bipush (v := zI 26) C.1 C.2.1 dX3_localAt_22 (by decide) ?_
    refine y_icmp_lt (tgt := 40) C (a := ((F k : Nat) : Int)) (b := 26) dX3_localAt_24 (by decide) (by omega) (fun h24 => ?_) (fun h24 => ?_)
    · refine lv_iload_n C.1 C.2.1 dX3_localAt_40 rfl (lv_at hl 0 rfl) ?_
      refine lv_bipush (v := zI 59) C.1 C.2.1 dX3_localAt_41 (by decide) ?_
      refine y_icmp_lt (tgt := 59) C (a := ((F k : Nat) : Int)) (b := 59) dX3_localAt_43 (by decide) (by omega) (fun h43 => ?_) (fun h43 => ?_)
      · refine lv_aload_n C.1 C.2.1 dX3_localAt_59 rfl (lv_at hl 1 rfl) ?_
        refine lv_iload_n C.1 C.2.1 dX3_localAt_60 rfl (lv_at hl 2 rfl) ?_
        refine lv_iconst (v := zI 1) C.1 C.2.1 dX3_localAt_61 (by decide) ?_
        refine y_iaddN C (a := k) (b := 1) dX3_localAt_62 ?_
        refine z_readV C (As := [zN (k + 1)]) (rest := []) (c_u1 l Z hM hB (k + 1) rfl (by omega)) hM.byt rfl ⟨⟨zw_9_12, zw_2_15, zw_21_1⟩, zd_X1_u1⟩ zw_9_10 zw_9_11 ⟨Nat.le_of_ble_eq_true rfl, Nat.le_of_ble_eq_true rfl⟩ ⟨rfl, rfl⟩ rfl hl.1 rfl (Nat.le_of_ble_eq_true rfl) dX3_localAt_63 ⟨Nat.zero_le _, Nat.zero_le _⟩ hS (fun locs hS => ?_)
        have := hB.1 (k + 1)
        exact hret _ _ _ _ (zI ((F (k + 1) : Nat) : Int)) hS ⟨congrArg (fun x : Int => some (zV x)) (by unfold loC; (repeat' split) <;> omega), rfl⟩ rfl dX3_localAt_66
      · refine lv_iload_n C.1 C.2.1 dX3_localAt_46 rfl (lv_at hl 0 rfl) ?_
        refine lv_bipush (v := zI 78) C.1 C.2.1 dX3_localAt_47 (by decide) ?_
        refine y_icmp_gt (tgt := 59) C (a := ((F k : Nat) : Int)) (b := 78) dX3_localAt_49 (by decide) (by omega) (fun h49 => ?_) (fun h49 => ?_)
        · refine lv_aload_n C.1 C.2.1 dX3_localAt_59 rfl (lv_at hl 1 rfl) ?_
          refine lv_iload_n C.1 C.2.1 dX3_localAt_60 rfl (lv_at hl 2 rfl) ?_
          refine lv_iconst (v := zI 1) C.1 C.2.1 dX3_localAt_61 (by decide) ?_
          refine y_iaddN C (a := k) (b := 1) dX3_localAt_62 ?_
          refine z_readV C (As := [zN (k + 1)]) (rest := []) (c_u1 l Z hM hB (k + 1) rfl (by omega)) hM.byt rfl ⟨⟨zw_9_12, zw_2_15, zw_21_1⟩, zd_X1_u1⟩ zw_9_10 zw_9_11 ⟨Nat.le_of_ble_eq_true rfl, Nat.le_of_ble_eq_true rfl⟩ ⟨rfl, rfl⟩ rfl hl.1 rfl (Nat.le_of_ble_eq_true rfl) dX3_localAt_63 ⟨Nat.zero_le _, Nat.zero_le _⟩ hS (fun locs hS => ?_)
          have := hB.1 (k + 1)
          exact hret _ _ _ _ (zI ((F (k + 1) : Nat) : Int)) hS ⟨congrArg (fun x : Int => some (zV x)) (by unfold loC; (repeat' split) <;> omega), rfl⟩ rfl dX3_localAt_66
        · refine lv_iload_n C.1 C.2.1 dX3_localAt_52 rfl (lv_at hl 0 rfl) ?_
          refine lv_bipush (v := zI 59) C.1 C.2.1 dX3_localAt_53 (by decide) ?_
          refine y_isub C (a := ((F k : Nat) : Int)) (b := 59) dX3_localAt_55 ?_
          refine z_re (y := zI ((F k - 59 : Nat) : Int)) (zI_c (by omega)) ?_
          refine lv_iconst (v := zI 4) C.1 C.2.1 dX3_localAt_56 (by decide) ?_
          refine lv_irem C.1 C.2.1 dX3_localAt_57 (by decide) ?_
          refine z_re (y := zI (((F k - 59) % 4 : Nat) : Int)) (rem4 (by omega)) ?_
          exact hret _ _ _ _ (zI (((F k - 59) % 4 : Nat) : Int)) hS ⟨congrArg (fun x : Int => some (zV x)) (by unfold loC; (repeat' split) <;> omega), rfl⟩ rfl dX3_localAt_58
    · refine lv_iload_n C.1 C.2.1 dX3_localAt_27 rfl (lv_at hl 0 rfl) ?_
      refine lv_bipush (v := zI 45) C.1 C.2.1 dX3_localAt_28 (by decide) ?_
      refine y_icmp_gt (tgt := 40) C (a := ((F k : Nat) : Int)) (b := 45) dX3_localAt_30 (by decide) (by omega) (fun h30 => ?_) (fun h30 => ?_)
      · refine lv_iload_n C.1 C.2.1 dX3_localAt_40 rfl (lv_at hl 0 rfl) ?_
        refine lv_bipush (v := zI 59) C.1 C.2.1 dX3_localAt_41 (by decide) ?_
        refine y_icmp_lt (tgt := 59) C (a := ((F k : Nat) : Int)) (b := 59) dX3_localAt_43 (by decide) (by omega) (fun h43 => ?_) (fun h43 => ?_)
        · refine lv_aload_n C.1 C.2.1 dX3_localAt_59 rfl (lv_at hl 1 rfl) ?_
          refine lv_iload_n C.1 C.2.1 dX3_localAt_60 rfl (lv_at hl 2 rfl) ?_
          refine lv_iconst (v := zI 1) C.1 C.2.1 dX3_localAt_61 (by decide) ?_
          refine y_iaddN C (a := k) (b := 1) dX3_localAt_62 ?_
          refine z_readV C (As := [zN (k + 1)]) (rest := []) (c_u1 l Z hM hB (k + 1) rfl (by omega)) hM.byt rfl ⟨⟨zw_9_12, zw_2_15, zw_21_1⟩, zd_X1_u1⟩ zw_9_10 zw_9_11 ⟨Nat.le_of_ble_eq_true rfl, Nat.le_of_ble_eq_true rfl⟩ ⟨rfl, rfl⟩ rfl hl.1 rfl (Nat.le_of_ble_eq_true rfl) dX3_localAt_63 ⟨Nat.zero_le _, Nat.zero_le _⟩ hS (fun locs hS => ?_)
          have := hB.1 (k + 1)
          exact hret _ _ _ _ (zI ((F (k + 1) : Nat) : Int)) hS ⟨congrArg (fun x : Int => some (zV x)) (by unfold loC; (repeat' split) <;> omega), rfl⟩ rfl dX3_localAt_66
        · refine lv_iload_n C.1 C.2.1 dX3_localAt_46 rfl (lv_at hl 0 rfl) ?_
          refine lv_bipush (v := zI 78) C.1 C.2.1 dX3_localAt_47 (by decide) ?_
          refine y_icmp_gt (tgt := 59) C (a := ((F k : Nat) : Int)) (b := 78) dX3_localAt_49 (by decide) (by omega) (fun h49 => ?_) (fun h49 => ?_)
          · refine lv_aload_n C.1 C.2.1 dX3_localAt_59 rfl (lv_at hl 1 rfl) ?_
            refine lv_iload_n C.1 C.2.1 dX3_localAt_60 rfl (lv_at hl 2 rfl) ?_
            refine lv_iconst (v := zI 1) C.1 C.2.1 dX3_localAt_61 (by decide) ?_
            refine y_iaddN C (a := k) (b := 1) dX3_localAt_62 ?_
            refine z_readV C (As := [zN (k + 1)]) (rest := []) (c_u1 l Z hM hB (k + 1) rfl (by omega)) hM.byt rfl ⟨⟨zw_9_12, zw_2_15, zw_21_1⟩, zd_X1_u1⟩ zw_9_10 zw_9_11 ⟨Nat.le_of_ble_eq_true rfl, Nat.le_of_ble_eq_true rfl⟩ ⟨rfl, rfl⟩ rfl hl.1 rfl (Nat.le_of_ble_eq_true rfl) dX3_localAt_63 ⟨Nat.zero_le _, Nat.zero_le _⟩ hS (fun locs hS => ?_)
            have := hB.1 (k + 1)
            exact hret _ _ _ _ (zI ((F (k + 1) : Nat) : Int)) hS ⟨congrArg (fun x : Int => some (zV x)) (by unfold loC; (repeat' split) <;> omega), rfl⟩ rfl dX3_localAt_66
          · refine lv_iload_n C.1 C.2.1 dX3_localAt_52 rfl (lv_at hl 0 rfl) ?_
            refine lv_bipush (v := zI 59) C.1 C.2.1 dX3_localAt_53 (by decide) ?_
            refine y_isub C (a := ((F k : Nat) : Int)) (b := 59) dX3_localAt_55 ?_
            refine z_re (y := zI ((F k - 59 : Nat) : Int)) (zI_c (by omega)) ?_
            refine lv_iconst (v := zI 4) C.1 C.2.1 dX3_localAt_56 (by decide) ?_
            refine lv_irem C.1 C.2.1 dX3_localAt_57 (by decide) ?_
            refine z_re (y := zI (((F k - 59) % 4 : Nat) : Int)) (rem4 (by omega)) ?_
            exact hret _ _ _ _ (zI (((F k - 59) % 4 : Nat) : Int)) hS ⟨congrArg (fun x : Int => some (zV x)) (by unfold loC; (repeat' split) <;> omega), rfl⟩ rfl dX3_localAt_58
      · refine lv_iload_n C.1 C.2.1 dX3_localAt_33 rfl (lv_at hl 0 rfl) ?_
        refine lv_bipush (v := zI 26) C.1 C.2.1 dX3_localAt_34 (by decide) ?_
        refine y_isub C (a := ((F k : Nat) : Int)) (b := 26) dX3_localAt_36 ?_
        refine z_re (y := zI ((F k - 26 : Nat) : Int)) (zI_c (by omega)) ?_
        refine lv_iconst (v := zI 4) C.1 C.2.1 dX3_localAt_37 (by decide) ?_
        refine lv_irem C.1 C.2.1 dX3_localAt_38 (by decide) ?_
        refine z_re (y := zI (((F k - 26) % 4 : Nat) : Int)) (rem4 (by omega)) ?_
        exact hret _ _ _ _ (zI (((F k - 26) % 4 : Nat) : Int)) hS ⟨congrArg (fun x : Int => some (zV x)) (by unfold loC; (repeat' split) <;> omega), rfl⟩ rfl dX3_localAt_39
  · refine lv_aload_n C.1 C.2.1 dX3_localAt_13 rfl (lv_at hl 1 rfl) ?_
    refine lv_iload_n C.1 C.2.1 dX3_localAt_14 rfl (lv_at hl 2 rfl) ?_
    refine lv_iconst (v := zI 2) C.1 C.2.1 dX3_localAt_15 (by decide) ?_
    refine y_iaddN C (a := k) (b := 2) dX3_localAt_16 ?_
    refine z_readV C (As := [zN (k + 2)]) (rest := []) (c_u2 l Z hM hB (k + 2) rfl (by omega)) hM.byt rfl ⟨⟨zw_10_5, zw_2_15, zw_23_2⟩, zd_X1_u2⟩ zw_10_3 zw_10_4 ⟨Nat.le_of_ble_eq_true rfl, Nat.le_of_ble_eq_true rfl⟩ ⟨rfl, rfl⟩ rfl hl.1 rfl (Nat.le_of_ble_eq_true rfl) dX3_localAt_17 ⟨Nat.zero_le _, Nat.zero_le _⟩ hS (fun locs hS => ?_)
    have := U2_lt hB.1 (k + 2)
    exact hret _ _ _ _ (zI ((U2 F (k + 2) : Nat) : Int)) hS ⟨congrArg (fun x : Int => some (zV x)) (by unfold loC; (repeat' split) <;> omega), rfl⟩ rfl dX3_localAt_20

set_option maxHeartbeats 4000000 in
set_option maxRecDepth 20000 in
theorem c_X3_entryAt (l : Launch) (Z : zT) {H : Heap} {ad : Nat → Nat} {τ : mS} {X : List (Nat × va_E)} (hM : isC Z H ad τ X) {F : Nat → Nat} {n : Nat} (hB : cSrc τ F n) {k : Nat} (hk : k + 1 < n) (hk2 : (F k = 19 ∨ F k = 20 ∨ F k = 178 ∨ F k = 179 ∨ F k = 184) → k + 3 ≤ n) : zP l Z yX3_entryAt cX3_entryAt 2 (some .int) (rmk 2) [.ref (ad 1), zN k] H (zN (enC F k)) := by
  have hn := hB.2.2.2
  have hFk := hB.1 k
  have hFk1 := hB.1 (k + 1)
  refine zM.introI (own := RX3) ⟨by decide, rfl⟩ (Nat.le_of_ble_eq_true rfl) ?_
  intro p e s m args below meth c Q ls hH C hl hret
  have hS : va_S (fun _ => False) s.heap H [] := by rw [hH]; exact va_S.rf
  have hl : lv_has ls 2 [(0, .ref (ad 1)), (1, zN k)] := hl
  refine lv_aload_n C.1 C.2.1 dX3_entryAt_0 rfl (lv_at hl 0 rfl) ?_
  refine lv_iload_n C.1 C.2.1 dX3_entryAt_1 rfl (lv_at hl 1 rfl) ?_
  refine z_readV C (As := [zN k]) (rest := []) (c_u1 l Z hM hB k rfl (by omega)) hM.byt rfl ⟨⟨zw_9_12, zw_2_15, zw_21_1⟩, zd_X1_u1⟩ zw_9_10 zw_9_11 ⟨Nat.le_of_ble_eq_true rfl, Nat.le_of_ble_eq_true rfl⟩ ⟨rfl, rfl⟩ rfl hl.1 rfl (Nat.le_of_ble_eq_true rfl) dX3_entryAt_2 ⟨Nat.zero_le _, Nat.zero_le _⟩ hS (fun locs hS => ?_)
  have := hB.1 k
  rcases (show ((F k : Nat) : Int) = 18 ∨ ((F k : Nat) : Int) = 19 ∨ ((F k : Nat) : Int) = 20 ∨ ((F k : Nat) : Int) = 178 ∨ ((F k : Nat) : Int) = 179 ∨ ((F k : Nat) : Int) = 184 ∨ (((F k : Nat) : Int) ≠ 18 ∧ ((F k : Nat) : Int) ≠ 19 ∧ ((F k : Nat) : Int) ≠ 20 ∧ ((F k : Nat) : Int) ≠ 178 ∧ ((F k : Nat) : Int) ≠ 179 ∧ ((F k : Nat) : Int) ≠ 184) by omega) with h5 | h5 | h5 | h5 | h5 | h5 | h5
  · refine y_lookIn C 18 h5 dX3_entryAt_5 (by decide) (by decide) (off := 59) (by decide) (tgt := 64) (by decide) ?_
    refine lv_aload_n C.1 C.2.1 dX3_entryAt_64 rfl (lv_at hl 0 rfl) ?_
    refine lv_iload_n C.1 C.2.1 dX3_entryAt_65 rfl (lv_at hl 1 rfl) ?_
    refine lv_iconst (v := zI 1) C.1 C.2.1 dX3_entryAt_66 (by decide) ?_
    refine y_iaddN C (a := k) (b := 1) dX3_entryAt_67 ?_
    refine z_readV C (As := [zN (k + 1)]) (rest := []) (c_u1 l Z hM hB (k + 1) rfl (by omega)) hM.byt rfl ⟨⟨zw_9_12, zw_2_15, zw_21_1⟩, zd_X1_u1⟩ zw_9_10 zw_9_11 ⟨Nat.le_of_ble_eq_true rfl, Nat.le_of_ble_eq_true rfl⟩ ⟨rfl, rfl⟩ rfl hl.1 rfl (Nat.le_of_ble_eq_true rfl) dX3_entryAt_68 ⟨Nat.zero_le _, Nat.zero_le _⟩ hS (fun locs hS => ?_)
    have := hB.1 (k + 1)
    exact hret _ _ _ _ (zI ((F (k + 1) : Nat) : Int)) hS ⟨congrArg (fun x : Int => some (zV x)) (by unfold enC; (repeat' split) <;> omega), rfl⟩ rfl dX3_entryAt_71
  · refine y_lookIn C 19 h5 dX3_entryAt_5 (by decide) (by decide) (off := 67) (by decide) (tgt := 72) (by decide) ?_
    refine lv_aload_n C.1 C.2.1 dX3_entryAt_72 rfl (lv_at hl 0 rfl) ?_
    refine lv_iload_n C.1 C.2.1 dX3_entryAt_73 rfl (lv_at hl 1 rfl) ?_
    refine lv_iconst (v := zI 1) C.1 C.2.1 dX3_entryAt_74 (by decide) ?_
    refine y_iaddN C (a := k) (b := 1) dX3_entryAt_75 ?_
    refine z_readV C (As := [zN (k + 1)]) (rest := []) (c_u2 l Z hM hB (k + 1) rfl (by omega)) hM.byt rfl ⟨⟨zw_10_5, zw_2_15, zw_23_2⟩, zd_X1_u2⟩ zw_10_3 zw_10_4 ⟨Nat.le_of_ble_eq_true rfl, Nat.le_of_ble_eq_true rfl⟩ ⟨rfl, rfl⟩ rfl hl.1 rfl (Nat.le_of_ble_eq_true rfl) dX3_entryAt_76 ⟨Nat.zero_le _, Nat.zero_le _⟩ hS (fun locs hS => ?_)
    have := U2_lt hB.1 (k + 1)
    exact hret _ _ _ _ (zI ((U2 F (k + 1) : Nat) : Int)) hS ⟨congrArg (fun x : Int => some (zV x)) (by unfold enC; (repeat' split) <;> omega), rfl⟩ rfl dX3_entryAt_79
  · refine y_lookIn C 20 h5 dX3_entryAt_5 (by decide) (by decide) (off := 67) (by decide) (tgt := 72) (by decide) ?_
    refine lv_aload_n C.1 C.2.1 dX3_entryAt_72 rfl (lv_at hl 0 rfl) ?_
    refine lv_iload_n C.1 C.2.1 dX3_entryAt_73 rfl (lv_at hl 1 rfl) ?_
    refine lv_iconst (v := zI 1) C.1 C.2.1 dX3_entryAt_74 (by decide) ?_
    refine y_iaddN C (a := k) (b := 1) dX3_entryAt_75 ?_
    refine z_readV C (As := [zN (k + 1)]) (rest := []) (c_u2 l Z hM hB (k + 1) rfl (by omega)) hM.byt rfl ⟨⟨zw_10_5, zw_2_15, zw_23_2⟩, zd_X1_u2⟩ zw_10_3 zw_10_4 ⟨Nat.le_of_ble_eq_true rfl, Nat.le_of_ble_eq_true rfl⟩ ⟨rfl, rfl⟩ rfl hl.1 rfl (Nat.le_of_ble_eq_true rfl) dX3_entryAt_76 ⟨Nat.zero_le _, Nat.zero_le _⟩ hS (fun locs hS => ?_)
    have := U2_lt hB.1 (k + 1)
    exact hret _ _ _ _ (zI ((U2 F (k + 1) : Nat) : Int)) hS ⟨congrArg (fun x : Int => some (zV x)) (by unfold enC; (repeat' split) <;> omega), rfl⟩ rfl dX3_entryAt_79
  · refine y_lookIn C 178 h5 dX3_entryAt_5 (by decide) (by decide) (off := 67) (by decide) (tgt := 72) (by decide) ?_
    refine lv_aload_n C.1 C.2.1 dX3_entryAt_72 rfl (lv_at hl 0 rfl) ?_
    refine lv_iload_n C.1 C.2.1 dX3_entryAt_73 rfl (lv_at hl 1 rfl) ?_
    refine lv_iconst (v := zI 1) C.1 C.2.1 dX3_entryAt_74 (by decide) ?_
    refine y_iaddN C (a := k) (b := 1) dX3_entryAt_75 ?_
    refine z_readV C (As := [zN (k + 1)]) (rest := []) (c_u2 l Z hM hB (k + 1) rfl (by omega)) hM.byt rfl ⟨⟨zw_10_5, zw_2_15, zw_23_2⟩, zd_X1_u2⟩ zw_10_3 zw_10_4 ⟨Nat.le_of_ble_eq_true rfl, Nat.le_of_ble_eq_true rfl⟩ ⟨rfl, rfl⟩ rfl hl.1 rfl (Nat.le_of_ble_eq_true rfl) dX3_entryAt_76 ⟨Nat.zero_le _, Nat.zero_le _⟩ hS (fun locs hS => ?_)
    have := U2_lt hB.1 (k + 1)
    exact hret _ _ _ _ (zI ((U2 F (k + 1) : Nat) : Int)) hS ⟨congrArg (fun x : Int => some (zV x)) (by unfold enC; (repeat' split) <;> omega), rfl⟩ rfl dX3_entryAt_79
  · refine y_lookIn C 179 h5 dX3_entryAt_5 (by decide) (by decide) (off := 67) (by decide) (tgt := 72) (by decide) ?_
    refine lv_aload_n C.1 C.2.1 dX3_entryAt_72 rfl (lv_at hl 0 rfl) ?_
    refine lv_iload_n C.1 C.2.1 dX3_entryAt_73 rfl (lv_at hl 1 rfl) ?_
    refine lv_iconst (v := zI 1) C.1 C.2.1 dX3_entryAt_74 (by decide) ?_
    refine y_iaddN C (a := k) (b := 1) dX3_entryAt_75 ?_
    refine z_readV C (As := [zN (k + 1)]) (rest := []) (c_u2 l Z hM hB (k + 1) rfl (by omega)) hM.byt rfl ⟨⟨zw_10_5, zw_2_15, zw_23_2⟩, zd_X1_u2⟩ zw_10_3 zw_10_4 ⟨Nat.le_of_ble_eq_true rfl, Nat.le_of_ble_eq_true rfl⟩ ⟨rfl, rfl⟩ rfl hl.1 rfl (Nat.le_of_ble_eq_true rfl) dX3_entryAt_76 ⟨Nat.zero_le _, Nat.zero_le _⟩ hS (fun locs hS => ?_)
    have := U2_lt hB.1 (k + 1)
    exact hret _ _ _ _ (zI ((U2 F (k + 1) : Nat) : Int)) hS ⟨congrArg (fun x : Int => some (zV x)) (by unfold enC; (repeat' split) <;> omega), rfl⟩ rfl dX3_entryAt_79
  · refine y_lookIn C 184 h5 dX3_entryAt_5 (by decide) (by decide) (off := 67) (by decide) (tgt := 72) (by decide) ?_
    refine lv_aload_n C.1 C.2.1 dX3_entryAt_72 rfl (lv_at hl 0 rfl) ?_
    refine lv_iload_n C.1 C.2.1 dX3_entryAt_73 rfl (lv_at hl 1 rfl) ?_
    refine lv_iconst (v := zI 1) C.1 C.2.1 dX3_entryAt_74 (by decide) ?_
    refine y_iaddN C (a := k) (b := 1) dX3_entryAt_75 ?_
    refine z_readV C (As := [zN (k + 1)]) (rest := []) (c_u2 l Z hM hB (k + 1) rfl (by omega)) hM.byt rfl ⟨⟨zw_10_5, zw_2_15, zw_23_2⟩, zd_X1_u2⟩ zw_10_3 zw_10_4 ⟨Nat.le_of_ble_eq_true rfl, Nat.le_of_ble_eq_true rfl⟩ ⟨rfl, rfl⟩ rfl hl.1 rfl (Nat.le_of_ble_eq_true rfl) dX3_entryAt_76 ⟨Nat.zero_le _, Nat.zero_le _⟩ hS (fun locs hS => ?_)
    have := U2_lt hB.1 (k + 1)
    exact hret _ _ _ _ (zI ((U2 F (k + 1) : Nat) : Int)) hS ⟨congrArg (fun x : Int => some (zV x)) (by unfold enC; (repeat' split) <;> omega), rfl⟩ rfl dX3_entryAt_79
  · refine y_lookOut C (by omega) dX3_entryAt_5 (by decide) (fun q hq => by simp at hq; rcases hq with rfl | rfl | rfl | rfl | rfl | rfl <;> (dsimp only; omega)) (tgt := 80) (by decide) ?_
    refine lv_iconst (v := zI 0) C.1 C.2.1 dX3_entryAt_80 (by decide) ?_
    exact hret _ _ _ _ (zI 0) hS ⟨congrArg (fun x : Int => some (zV x)) (by unfold enC; (repeat' split) <;> omega), rfl⟩ rfl dX3_entryAt_81

def jpO (F : Nat → Nat) (p : Nat) : Int := if F p = 200 then S4 F (p + 1) else S2 F (p + 1)

set_option maxHeartbeats 4000000 in
set_option maxRecDepth 20000 in
theorem c_X3_jumpPlace (l : Launch) (Z : zT) {H : Heap} {ad : Nat → Nat} {τ : mS} {X : List (Nat × va_E)} (hM : isC Z H ad τ X) {F : Nat → Nat} {n : Nat} (hB : cSrc τ F n) {k : Nat} (hk : k + 3 ≤ n) (hk2 : F k = 200 → k + 5 ≤ n) : zP l Z yX3_jumpPlace cX3_jumpPlace 2 (some .int) (rmk 3) [.ref (ad 1), zN k] H (zV ((k : Int) + jpO F k)) := by
  have hn := hB.2.2.2
  have hFk := hB.1 k
  refine zM.introI (own := RX3) ⟨by decide, rfl⟩ (Nat.le_of_ble_eq_true rfl) ?_
  intro p e s m args below meth c Q ls hH C hl hret
  have hS : va_S (fun _ => False) s.heap H [] := by rw [hH]; exact va_S.rf
  have hl : lv_has ls 2 [(0, .ref (ad 1)), (1, zN k)] := hl
  refine lv_iload_n C.1 C.2.1 dX3_jumpPlace_0 rfl (lv_at hl 1 rfl) ?_
  refine lv_aload_n C.1 C.2.1 dX3_jumpPlace_1 rfl (lv_at hl 0 rfl) ?_
  refine lv_iload_n C.1 C.2.1 dX3_jumpPlace_2 rfl (lv_at hl 1 rfl) ?_
  refine z_readV C (As := [zN k]) (rest := [zN k]) (c_u1 l Z hM hB k rfl (by omega)) hM.byt rfl ⟨⟨zw_9_12, zw_2_15, zw_21_1⟩, zd_X1_u1⟩ zw_9_10 zw_9_11 ⟨Nat.le_of_ble_eq_true rfl, Nat.le_of_ble_eq_true rfl⟩ ⟨rfl, rfl⟩ rfl hl.1 rfl (Nat.le_of_ble_eq_true rfl) dX3_jumpPlace_3 ⟨Nat.zero_le _, Nat.zero_le _⟩ hS (fun locs hS => ?_)
  have := hB.1 k
  refine lv_sipush (v := zI 200) C.1 C.2.1 dX3_jumpPlace_6 (by decide) ?_
  refine y_icmp_ne (tgt := 22) C (a := ((F k : Nat) : Int)) (b := 200) dX3_jumpPlace_9 (by decide) (by omega) (fun h9 => ?_) (fun h9 => ?_)
  · refine lv_aload_n C.1 C.2.1 dX3_jumpPlace_22 rfl (lv_at hl 0 rfl) ?_
    refine lv_iload_n C.1 C.2.1 dX3_jumpPlace_23 rfl (lv_at hl 1 rfl) ?_
    refine lv_iconst (v := zI 1) C.1 C.2.1 dX3_jumpPlace_24 (by decide) ?_
    refine y_iaddN C (a := k) (b := 1) dX3_jumpPlace_25 ?_
    refine z_readV C (As := [zN (k + 1)]) (rest := [zN k]) (c_s2 l Z hM hB (k + 1) rfl (by omega)) hM.byt rfl ⟨⟨zw_23_22, zw_2_15, zw_23_19⟩, zd_X1_s2⟩ zw_23_20 zw_23_21 ⟨Nat.le_of_ble_eq_true rfl, Nat.le_of_ble_eq_true rfl⟩ ⟨rfl, rfl⟩ rfl hl.1 rfl (Nat.le_of_ble_eq_true rfl) dX3_jumpPlace_26 ⟨Nat.zero_le _, Nat.zero_le _⟩ hS (fun locs hS => ?_)
    have := S2_rg hB.1 (k + 1)
    refine y_iadd C (a := ((k : Nat) : Int)) (b := S2 F (k + 1)) dX3_jumpPlace_29 ?_
    exact hret _ _ _ _ (zI (((k : Nat) : Int) + (S2 F (k + 1)))) hS ⟨congrArg (fun x : Int => some (zV x)) (by unfold jpO; rw [if_neg (by omega)]), rfl⟩ rfl dX3_jumpPlace_30
  · refine lv_aload_n C.1 C.2.1 dX3_jumpPlace_12 rfl (lv_at hl 0 rfl) ?_
    refine lv_iload_n C.1 C.2.1 dX3_jumpPlace_13 rfl (lv_at hl 1 rfl) ?_
    refine lv_iconst (v := zI 1) C.1 C.2.1 dX3_jumpPlace_14 (by decide) ?_
    refine y_iaddN C (a := k) (b := 1) dX3_jumpPlace_15 ?_
    refine z_readV C (As := [zN (k + 1)]) (rest := [zN k]) (c_s4 l Z hM hB (k + 1) rfl (by omega)) hM.byt rfl ⟨⟨zw_13_1, zw_2_15, zw_21_9⟩, zd_X1_s4⟩ zw_12_23 zw_13_0 ⟨Nat.le_of_ble_eq_true rfl, Nat.le_of_ble_eq_true rfl⟩ ⟨rfl, rfl⟩ rfl hl.1 rfl (Nat.le_of_ble_eq_true rfl) dX3_jumpPlace_16 ⟨Nat.zero_le _, Nat.zero_le _⟩ hS (fun locs hS => ?_)
    have := S4_rg hB.1 (k + 1)
    refine lv_goto (tgt := 29) C.1 C.2.1 dX3_jumpPlace_19 (by decide) ?_
    refine y_iadd C (a := ((k : Nat) : Int)) (b := S4 F (k + 1)) dX3_jumpPlace_29 ?_
    exact hret _ _ _ _ (zI (((k : Nat) : Int) + (S4 F (k + 1)))) hS ⟨congrArg (fun x : Int => some (zV x)) (by unfold jpO; rw [if_pos (by omega)]), rfl⟩ rfl dX3_jumpPlace_30

/-- the switch at offset q of the code stands in the file, M pairs behind the default -/
def swIn (F : Nat → Nat) (n ca q M : Nat) : Prop := (F (ca + q) = 170 ∧ S4 F (ca + swF q + 8) - S4 F (ca + swF q + 4) + 1 = (M : Int) ∧ M ≤ 201 ∧ ca + swF q + 12 + 4 * M ≤ n) ∨ (F (ca + q) = 171 ∧ S4 F (ca + swF q + 4) = (M : Int) ∧ M ≤ 200 ∧ ca + swF q + 8 + 8 * M ≤ n)
def tgP (F : Nat → Nat) (ca q k : Nat) : Int := if k = 0 then S4 F (ca + swF q) else S4 F (ca + swT q (F (ca + q)) (k - 1))

set_option maxHeartbeats 4000000 in
set_option maxRecDepth 20000 in
theorem c_X3_targetCount (l : Launch) (Z : zT) {H : Heap} {ad : Nat → Nat} {τ : mS} {X : List (Nat × va_E)} (hM : isC Z H ad τ X) {F : Nat → Nat} {n : Nat} (hB : cSrc τ F n) {ca q M : Nat} (hk : ca + q < n) (hsM : swIn F n ca q M) : zP l Z yX3_targetCount cX3_targetCount 4 (some .int) (rmk 3) [.ref (ad 1), zN (ca + q), zN ca] H (zN (M + 1)) := by
  have hn := hB.2.2.2
  have hFk := hB.1 (ca + q)
  have hsM0 := hsM
  unfold swIn at hsM
  refine zM.introI (own := RX3) ⟨by decide, rfl⟩ (Nat.le_of_ble_eq_true rfl) ?_
  intro p e s m args below meth c Q ls hH C hl hret
  have hS : va_S (fun _ => False) s.heap H [] := by rw [hH]; exact va_S.rf
  have hl : lv_has ls 4 [(0, .ref (ad 1)), (1, zN (ca + q)), (2, zN ca)] := hl
  refine lv_iload_n C.1 C.2.1 dX3_targetCount_0 rfl (lv_at hl 1 rfl) ?_
  refine lv_iload_n C.1 C.2.1 dX3_targetCount_1 rfl (lv_at hl 2 rfl) ?_
  refine z_readS C (As := [zN (ca + q), zN ca]) (rest := []) (c_X3_switchHead l Z (ca := ca) (k := q) (by omega)) ⟨⟨zw_21_8, zw_20_22, zw_21_6⟩, zd_X3_switchHead⟩ zw_21_7 ⟨Nat.le_of_ble_eq_true rfl, Nat.le_of_ble_eq_true rfl⟩ ⟨rfl, rfl⟩ rfl hl.1 rfl (Nat.le_of_ble_eq_true rfl) dX3_targetCount_2 ⟨Nat.zero_le _, Nat.zero_le _⟩ hS (fun locs hS => ?_)
  have hsw : swF q ≤ q + 4 ∧ q + 1 ≤ swF q := by unfold swF; omega
  refine lv_istore_n (lv' := [(3, zN (ca + swF q)), (0, .ref (ad 1)), (1, zN (ca + q)), (2, zN ca)]) C.1 C.2.1 dX3_targetCount_5 rfl hl (by decide) rfl (fun ls hl => ?_)
  refine lv_aload_n C.1 C.2.1 dX3_targetCount_6 rfl (lv_at hl 1 rfl) ?_
  refine lv_iload_n C.1 C.2.1 dX3_targetCount_7 rfl (lv_at hl 2 rfl) ?_
  refine z_readV C (As := [zN (ca + q)]) (rest := []) (c_u1 l Z hM hB (ca + q) rfl (by omega)) hM.byt rfl ⟨⟨zw_9_12, zw_2_15, zw_21_1⟩, zd_X1_u1⟩ zw_9_10 zw_9_11 ⟨Nat.le_of_ble_eq_true rfl, Nat.le_of_ble_eq_true rfl⟩ ⟨rfl, rfl⟩ rfl hl.1 rfl (Nat.le_of_ble_eq_true rfl) dX3_targetCount_8 ⟨Nat.zero_le _, Nat.zero_le _⟩ hS (fun locs hS => ?_)
  have := hB.1 (ca + q)
  rcases (show ((F (ca + q) : Nat) : Int) = 170 ∨ ((F (ca + q) : Nat) : Int) = 171 ∨ (((F (ca + q) : Nat) : Int) ≠ 170 ∧ ((F (ca + q) : Nat) : Int) ≠ 171) by omega) with h11 | h11 | h11
  · refine y_lookIn C 170 h11 dX3_targetCount_11 (by decide) (by decide) (off := 25) (by decide) (tgt := 36) (by decide) ?_
    refine lv_aload_n C.1 C.2.1 dX3_targetCount_36 rfl (lv_at hl 1 rfl) ?_
    refine lv_iload_n C.1 C.2.1 dX3_targetCount_37 rfl (lv_at hl 0 rfl) ?_
    refine lv_bipush (v := zI 8) C.1 C.2.1 dX3_targetCount_38 (by decide) ?_
    refine y_iaddN C (a := ca + swF q) (b := 8) dX3_targetCount_40 ?_
    refine z_readV C (As := [zN ((ca + swF q) + 8)]) (rest := []) (c_s4 l Z hM hB ((ca + swF q) + 8) rfl (by omega)) hM.byt rfl ⟨⟨zw_13_1, zw_2_15, zw_21_9⟩, zd_X1_s4⟩ zw_12_23 zw_13_0 ⟨Nat.le_of_ble_eq_true rfl, Nat.le_of_ble_eq_true rfl⟩ ⟨rfl, rfl⟩ rfl hl.1 rfl (Nat.le_of_ble_eq_true rfl) dX3_targetCount_41 ⟨Nat.zero_le _, Nat.zero_le _⟩ hS (fun locs hS => ?_)
    have := S4_rg hB.1 ((ca + swF q) + 8)
    refine lv_aload_n C.1 C.2.1 dX3_targetCount_44 rfl (lv_at hl 1 rfl) ?_
    refine lv_iload_n C.1 C.2.1 dX3_targetCount_45 rfl (lv_at hl 0 rfl) ?_
    refine lv_iconst (v := zI 4) C.1 C.2.1 dX3_targetCount_46 (by decide) ?_
    refine y_iaddN C (a := ca + swF q) (b := 4) dX3_targetCount_47 ?_
    refine z_readV C (As := [zN ((ca + swF q) + 4)]) (rest := [zV (S4 F ((ca + swF q) + 8))]) (c_s4 l Z hM hB ((ca + swF q) + 4) rfl (by omega)) hM.byt rfl ⟨⟨zw_13_1, zw_2_15, zw_21_9⟩, zd_X1_s4⟩ zw_12_23 zw_13_0 ⟨Nat.le_of_ble_eq_true rfl, Nat.le_of_ble_eq_true rfl⟩ ⟨rfl, rfl⟩ rfl hl.1 rfl (Nat.le_of_ble_eq_true rfl) dX3_targetCount_48 ⟨Nat.zero_le _, Nat.zero_le _⟩ hS (fun locs hS => ?_)
    have := S4_rg hB.1 ((ca + swF q) + 4)
    refine y_isub C (a := S4 F ((ca + swF q) + 8)) (b := S4 F ((ca + swF q) + 4)) dX3_targetCount_51 ?_
    refine lv_iconst (v := zI 2) C.1 C.2.1 dX3_targetCount_52 (by decide) ?_
    refine y_iadd C (a := (S4 F ((ca + swF q) + 8)) - (S4 F ((ca + swF q) + 4))) (b := 2) dX3_targetCount_53 ?_
    exact hret _ _ _ _ (zI (((S4 F ((ca + swF q) + 8)) - (S4 F ((ca + swF q) + 4))) + 2)) hS ⟨congrArg (fun x : Int => some (zV x)) (by omega), rfl⟩ rfl dX3_targetCount_54
  · refine y_lookIn C 171 h11 dX3_targetCount_11 (by decide) (by decide) (off := 44) (by decide) (tgt := 55) (by decide) ?_
    refine lv_aload_n C.1 C.2.1 dX3_targetCount_55 rfl (lv_at hl 1 rfl) ?_
    refine lv_iload_n C.1 C.2.1 dX3_targetCount_56 rfl (lv_at hl 0 rfl) ?_
    refine lv_iconst (v := zI 4) C.1 C.2.1 dX3_targetCount_57 (by decide) ?_
    refine y_iaddN C (a := ca + swF q) (b := 4) dX3_targetCount_58 ?_
    refine z_readV C (As := [zN ((ca + swF q) + 4)]) (rest := []) (c_s4 l Z hM hB ((ca + swF q) + 4) rfl (by omega)) hM.byt rfl ⟨⟨zw_13_1, zw_2_15, zw_21_9⟩, zd_X1_s4⟩ zw_12_23 zw_13_0 ⟨Nat.le_of_ble_eq_true rfl, Nat.le_of_ble_eq_true rfl⟩ ⟨rfl, rfl⟩ rfl hl.1 rfl (Nat.le_of_ble_eq_true rfl) dX3_targetCount_59 ⟨Nat.zero_le _, Nat.zero_le _⟩ hS (fun locs hS => ?_)
    have := S4_rg hB.1 ((ca + swF q) + 4)
    refine lv_iconst (v := zI 1) C.1 C.2.1 dX3_targetCount_62 (by decide) ?_
    refine y_iadd C (a := S4 F ((ca + swF q) + 4)) (b := 1) dX3_targetCount_63 ?_
    exact hret _ _ _ _ (zI ((S4 F ((ca + swF q) + 4)) + 1)) hS ⟨congrArg (fun x : Int => some (zV x)) (by omega), rfl⟩ rfl dX3_targetCount_64
  · refine y_lookOut C (by omega) dX3_targetCount_11 (by decide) (fun q hq => by simp at hq; rcases hq with rfl | rfl <;> (dsimp only; omega)) (tgt := 65) (by decide) ?_
    refine lv_iconst (v := zI 0) C.1 C.2.1 dX3_targetCount_65 (by decide) ?_
    exact hret _ _ _ _ (zI 0) hS ⟨congrArg (fun x : Int => some (zV x)) (by omega), rfl⟩ rfl dX3_targetCount_66

set_option maxHeartbeats 4000000 in
set_option maxRecDepth 20000 in
theorem c_X3_targetPlace (l : Launch) (Z : zT) {H : Heap} {ad : Nat → Nat} {τ : mS} {X : List (Nat × va_E)} (hM : isC Z H ad τ X) {F : Nat → Nat} {n : Nat} (hB : cSrc τ F n) {ca q M : Nat} (hk : ca + q < n) (hsM : swIn F n ca q M) {t : Nat} (htM : t ≤ M) : zP l Z yX3_targetPlace cX3_targetPlace 5 (some .int) (rmk 3) [.ref (ad 1), zN (ca + q), zN ca, zN t] H (zV (((ca + q : Nat) : Int) + tgP F ca q t)) := by
  have hn := hB.2.2.2
  have hFk := hB.1 (ca + q)
  have hsM0 := hsM
  unfold swIn at hsM
  refine zM.introI (own := RX3) ⟨by decide, rfl⟩ (Nat.le_of_ble_eq_true rfl) ?_
  intro p e s m args below meth c Q ls hH C hl hret
  have hS : va_S (fun _ => False) s.heap H [] := by rw [hH]; exact va_S.rf
  have hl : lv_has ls 5 [(0, .ref (ad 1)), (1, zN (ca + q)), (2, zN ca), (3, zN t)] := hl
  refine lv_iload_n C.1 C.2.1 dX3_targetPlace_0 rfl (lv_at hl 1 rfl) ?_
  refine lv_iload_n C.1 C.2.1 dX3_targetPlace_1 rfl (lv_at hl 2 rfl) ?_
  refine z_readS C (As := [zN (ca + q), zN ca]) (rest := []) (c_X3_switchHead l Z (ca := ca) (k := q) (by omega)) ⟨⟨zw_21_8, zw_20_22, zw_21_6⟩, zd_X3_switchHead⟩ zw_21_7 ⟨Nat.le_of_ble_eq_true rfl, Nat.le_of_ble_eq_true rfl⟩ ⟨rfl, rfl⟩ rfl hl.1 rfl (Nat.le_of_ble_eq_true rfl) dX3_targetPlace_2 ⟨Nat.zero_le _, Nat.zero_le _⟩ hS (fun locs hS => ?_)
  have hsw : swF q ≤ q + 4 ∧ q + 1 ≤ swF q := by unfold swF; omega
  refine lv_istore (lv' := [(4, zN (ca + swF q)), (0, .ref (ad 1)), (1, zN (ca + q)), (2, zN ca), (3, zN t)]) C.1 C.2.1 dX3_targetPlace_5 hl (by decide) rfl (fun ls hl => ?_)
  refine lv_iload_n C.1 C.2.1 dX3_targetPlace_7 rfl (lv_at hl 4 rfl) ?_
  refine y_if_ne (tgt := 20) C (a := ((t : Nat) : Int)) dX3_targetPlace_8 (by decide) (by omega) (fun h8 => ?_) (fun h8 => ?_)
  · refine lv_iload_n C.1 C.2.1 dX3_targetPlace_20 rfl (lv_at hl 2 rfl) ?_
    refine lv_aload_n C.1 C.2.1 dX3_targetPlace_21 rfl (lv_at hl 1 rfl) ?_
    refine lv_aload_n C.1 C.2.1 dX3_targetPlace_22 rfl (lv_at hl 1 rfl) ?_
    refine lv_iload_n C.1 C.2.1 dX3_targetPlace_23 rfl (lv_at hl 2 rfl) ?_
    refine z_readV C (As := [zN (ca + q)]) (rest := [.ref (ad 1), zN (ca + q)]) (c_u1 l Z hM hB (ca + q) rfl (by omega)) hM.byt rfl ⟨⟨zw_9_12, zw_2_15, zw_21_1⟩, zd_X1_u1⟩ zw_9_10 zw_9_11 ⟨Nat.le_of_ble_eq_true rfl, Nat.le_of_ble_eq_true rfl⟩ ⟨rfl, rfl⟩ rfl hl.1 rfl (Nat.le_of_ble_eq_true rfl) dX3_targetPlace_24 ⟨Nat.zero_le _, Nat.zero_le _⟩ hS (fun locs hS => ?_)
    have := hB.1 (ca + q)
    refine lv_sipush (v := zI 170) C.1 C.2.1 dX3_targetPlace_27 (by decide) ?_
    refine y_icmp_ne (tgt := 45) C (a := ((F (ca + q) : Nat) : Int)) (b := 170) dX3_targetPlace_30 (by decide) (by omega) (fun h30 => ?_) (fun h30 => ?_)
    · refine lv_iload C.1 C.2.1 dX3_targetPlace_45 (lv_at hl 0 rfl) ?_
      refine lv_iconst (v := zI 4) C.1 C.2.1 dX3_targetPlace_47 (by decide) ?_
      refine y_iaddN C (a := ca + swF q) (b := 4) dX3_targetPlace_48 ?_
      refine lv_bipush (v := zI 8) C.1 C.2.1 dX3_targetPlace_49 (by decide) ?_
      refine lv_iload_n C.1 C.2.1 dX3_targetPlace_51 rfl (lv_at hl 4 rfl) ?_
      refine y_imulN C (a := 8) (b := t) dX3_targetPlace_52 ?_
      refine y_iaddN C (a := (ca + swF q) + 4) (b := 8 * t) dX3_targetPlace_53 ?_
      refine z_re (y := zI ((ca + (swF q + 12 + 8 * (t - 1)) : Nat) : Int)) (zI_c (by omega)) ?_
      refine z_readV C (As := [zN (ca + (swF q + 12 + 8 * (t - 1)))]) (rest := [zN (ca + q)]) (c_s4 l Z hM hB (ca + (swF q + 12 + 8 * (t - 1))) rfl (by omega)) hM.byt rfl ⟨⟨zw_13_1, zw_2_15, zw_21_9⟩, zd_X1_s4⟩ zw_12_23 zw_13_0 ⟨Nat.le_of_ble_eq_true rfl, Nat.le_of_ble_eq_true rfl⟩ ⟨rfl, rfl⟩ rfl hl.1 rfl (Nat.le_of_ble_eq_true rfl) dX3_targetPlace_54 ⟨Nat.zero_le _, Nat.zero_le _⟩ hS (fun locs hS => ?_)
      have := S4_rg hB.1 (ca + (swF q + 12 + 8 * (t - 1)))
      refine y_iadd C (a := ((ca + q : Nat) : Int)) (b := S4 F (ca + (swF q + 12 + 8 * (t - 1)))) dX3_targetPlace_57 ?_
      exact hret _ _ _ _ (zI (((ca + q : Nat) : Int) + (S4 F (ca + (swF q + 12 + 8 * (t - 1)))))) hS ⟨congrArg (fun x : Int => some (zV x)) (by unfold tgP; rw [if_neg (by omega), show swT q (F (ca + q)) (t - 1) = swF q + 12 + 8 * (t - 1) from if_neg (by omega)]), rfl⟩ rfl dX3_targetPlace_58
    · refine lv_iload C.1 C.2.1 dX3_targetPlace_33 (lv_at hl 0 rfl) ?_
      refine lv_bipush (v := zI 8) C.1 C.2.1 dX3_targetPlace_35 (by decide) ?_
      refine y_iaddN C (a := ca + swF q) (b := 8) dX3_targetPlace_37 ?_
      refine lv_iconst (v := zI 4) C.1 C.2.1 dX3_targetPlace_38 (by decide) ?_
      refine lv_iload_n C.1 C.2.1 dX3_targetPlace_39 rfl (lv_at hl 4 rfl) ?_
      refine y_imulN C (a := 4) (b := t) dX3_targetPlace_40 ?_
      refine y_iaddN C (a := (ca + swF q) + 8) (b := 4 * t) dX3_targetPlace_41 ?_
      refine z_re (y := zI ((ca + (swF q + 12 + 4 * (t - 1)) : Nat) : Int)) (zI_c (by omega)) ?_
      refine lv_goto (tgt := 54) C.1 C.2.1 dX3_targetPlace_42 (by decide) ?_
      refine z_readV C (As := [zN (ca + (swF q + 12 + 4 * (t - 1)))]) (rest := [zN (ca + q)]) (c_s4 l Z hM hB (ca + (swF q + 12 + 4 * (t - 1))) rfl (by omega)) hM.byt rfl ⟨⟨zw_13_1, zw_2_15, zw_21_9⟩, zd_X1_s4⟩ zw_12_23 zw_13_0 ⟨Nat.le_of_ble_eq_true rfl, Nat.le_of_ble_eq_true rfl⟩ ⟨rfl, rfl⟩ rfl hl.1 rfl (Nat.le_of_ble_eq_true rfl) dX3_targetPlace_54 ⟨Nat.zero_le _, Nat.zero_le _⟩ hS (fun locs hS => ?_)
      have := S4_rg hB.1 (ca + (swF q + 12 + 4 * (t - 1)))
      refine y_iadd C (a := ((ca + q : Nat) : Int)) (b := S4 F (ca + (swF q + 12 + 4 * (t - 1)))) dX3_targetPlace_57 ?_
      exact hret _ _ _ _ (zI (((ca + q : Nat) : Int) + (S4 F (ca + (swF q + 12 + 4 * (t - 1)))))) hS ⟨congrArg (fun x : Int => some (zV x)) (by unfold tgP; rw [if_neg (by omega), show swT q (F (ca + q)) (t - 1) = swF q + 12 + 4 * (t - 1) from if_pos (by omega)]), rfl⟩ rfl dX3_targetPlace_58
  · refine lv_iload_n C.1 C.2.1 dX3_targetPlace_11 rfl (lv_at hl 2 rfl) ?_
    refine lv_aload_n C.1 C.2.1 dX3_targetPlace_12 rfl (lv_at hl 1 rfl) ?_
    refine lv_iload C.1 C.2.1 dX3_targetPlace_13 (lv_at hl 0 rfl) ?_
    refine z_readV C (As := [zN (ca + swF q)]) (rest := [zN (ca + q)]) (c_s4 l Z hM hB (ca + swF q) rfl (by omega)) hM.byt rfl ⟨⟨zw_13_1, zw_2_15, zw_21_9⟩, zd_X1_s4⟩ zw_12_23 zw_13_0 ⟨Nat.le_of_ble_eq_true rfl, Nat.le_of_ble_eq_true rfl⟩ ⟨rfl, rfl⟩ rfl hl.1 rfl (Nat.le_of_ble_eq_true rfl) dX3_targetPlace_15 ⟨Nat.zero_le _, Nat.zero_le _⟩ hS (fun locs hS => ?_)
    have := S4_rg hB.1 (ca + swF q)
    refine y_iadd C (a := ((ca + q : Nat) : Int)) (b := S4 F (ca + swF q)) dX3_targetPlace_18 ?_
    exact hret _ _ _ _ (zI (((ca + q : Nat) : Int) + (S4 F (ca + swF q)))) hS ⟨congrArg (fun x : Int => some (zV x)) (by unfold tgP; rw [if_pos (by omega)]), rfl⟩ rfl dX3_targetPlace_19
