/-! the component: rule 16 for catches and for all methods -/
def erB (F tb : Nat → Nat) (pc c : Nat) : Bool := if c = 0 then true else if isE F tb pc c 7 = true then decide (0 ≤ erL F tb (e1 F tb c) 4) else false
theorem erL_any (F tb : Nat → Nat) (k : Nat) : decide (0 ≤ erL F tb k 4) = (isTxK F tb k 1 || isTxK F tb k 2 || isTxK F tb k 3 || isTxK F tb k 4) := by
  unfold erL erL erL erL erL
  cases isTxK F tb k 4 <;> cases isTxK F tb k 3 <;> cases isTxK F tb k 2 <;> cases isTxK F tb k 1 <;> rfl
theorem ctR_i {F tb : Nat → Nat} {pc sz : Nat} {na : Nat → Int} {q : Nat} : (ctR F tb pc sz na q).isNone = (decide (ptOk sz na (U2 F q : Int) = true ∧ (U2 F (q + 2) = sz ∨ ptOk sz na (U2 F (q + 2) : Int) = true) ∧ ptOk sz na (U2 F (q + 4) : Int) = true ∧ U2 F q < U2 F (q + 2)) && erB F tb pc (U2 F (q + 6))) := by
  unfold ctR erB
  by_cases a : ptOk sz na (U2 F q : Int) = true ∧ (U2 F (q + 2) = sz ∨ ptOk sz na (U2 F (q + 2) : Int) = true) ∧ ptOk sz na (U2 F (q + 4) : Int) = true ∧ U2 F q < U2 F (q + 2)
  · rw [if_pos a, decide_eq_true a, Bool.true_and]
    by_cases b : U2 F (q + 6) = 0
    · rw [if_pos b, if_pos b]; rfl
    · rw [if_neg b, if_neg b]
      by_cases c : isE F tb pc (U2 F (q + 6)) 7 = true
      · rw [if_pos c, if_pos c]
        by_cases d : 0 ≤ erL F tb (e1 F tb (U2 F (q + 6))) 4
        · rw [if_pos d, decide_eq_true d]; rfl
        · rw [if_neg d, decide_eq_false d]; rfl
      · rw [if_neg c, if_neg c]; rfl
  · rw [if_neg a, decide_eq_false a]; rfl

set_option maxHeartbeats 4000000 in
set_option maxRecDepth 20000 in
theorem c_X5_isError (l : Launch) (Z : zT) {H : Heap} {ad : Nat → Nat} {τ : mS} {X : List (Nat × va_E)} (hM : isC Z H ad τ X) {F : Nat → Nat} {n : Nat} (hB : cSrc τ F n) {tb : Nat → Nat} {pc : Nat} (hP : cPl τ F tb pc) (hpp : pPl F n tb pc) (hx6 : x6 F tb pc = none) {k : Nat} (hk : k < 65536) : zP l Z yX5_isError cX5_isError 3 (some .boolean) (rmk 6) [.ref (ad 3), zN k] H (zV (bI (erB F tb pc k))) := by
  have hn := hB.2.2.2
  have hp1 := hP.2.1
  refine zM.introI (own := RX5) ⟨by decide, rfl⟩ (Nat.le_of_ble_eq_true rfl) ?_
  intro p e s m args below meth c Q ls hH C hl hret
  have hS : va_S (fun _ => False) s.heap H [] := by rw [hH]; exact va_S.rf
  have hl : lv_has ls 3 [(0, .ref (ad 3)), (1, zN k)] := hl
  refine lv_iload_n C.1 C.2.1 dX5_isError_0 rfl (lv_at hl 1 rfl) ?_
  refine y_if_ne (tgt := 6) C (a := ((k : Nat) : Int)) dX5_isError_1 (by decide) (by omega) (fun h1 => ?_) (fun h1 => ?_)
  · refine lv_aload_n C.1 C.2.1 dX5_isError_6 rfl (lv_at hl 0 rfl) ?_
    refine lv_bipush (v := zI 7) C.1 C.2.1 dX5_isError_7 (by decide) ?_
    refine lv_iload_n C.1 C.2.1 dX5_isError_9 rfl (lv_at hl 1 rfl) ?_
    refine z_readV C (As := [zN 7, zN k]) (rest := []) (c_X7_is l Z hM hB hP 7 (by decide) k rfl (by omega)) hM.pol rfl ⟨⟨zw_11_11, zw_2_19, zw_22_6⟩, zd_X7_is⟩ zw_11_9 zw_11_10 ⟨Nat.le_of_ble_eq_true rfl, Nat.le_of_ble_eq_true rfl⟩ ⟨rfl, rfl⟩ rfl hl.1 rfl (Nat.le_of_ble_eq_true rfl) dX5_isError_10 ⟨Nat.zero_le _, Nat.zero_le _⟩ hS (fun locs hS => ?_)
    refine y_ifb_ne (tgt := 18) C dX5_isError_13 (by decide) (fun h13 => ?_) (fun h13 => ?_)
    · have hc7 := class7 hx6 h13
      have ht7 := hpp.t7 (isE_t h13).2.2
      have hk7 := (isE_t h13).2.1
      refine lv_aload_n C.1 C.2.1 dX5_isError_18 rfl (lv_at hl 0 rfl) ?_
      refine lv_iload_n C.1 C.2.1 dX5_isError_19 rfl (lv_at hl 1 rfl) ?_
      refine lv_iconst (v := zI 0) C.1 C.2.1 dX5_isError_20 (by decide) ?_
      refine z_readV C (As := [zN k, zN 0]) (rest := []) (c_part0 l Z hM hB hP k (by omega) (by omega)) hM.pol rfl ⟨⟨zw_13_21, zw_2_19, zw_22_5⟩, zd_X7_part⟩ zw_13_19 zw_13_20 ⟨Nat.le_of_ble_eq_true rfl, Nat.le_of_ble_eq_true rfl⟩ ⟨rfl, rfl⟩ rfl hl.1 rfl (Nat.le_of_ble_eq_true rfl) dX5_isError_21 ⟨Nat.zero_le _, Nat.zero_le _⟩ hS (fun locs hS => ?_)
      have hel21 := e1_lt hB.1 tb k
      refine lv_istore_n (lv' := [(2, zN (e1 F tb k)), (0, .ref (ad 3)), (1, zN k)]) C.1 C.2.1 dX5_isError_24 rfl hl (by decide) rfl (fun ls hl => ?_)
      refine lv_aload_n C.1 C.2.1 dX5_isError_25 rfl (lv_at hl 1 rfl) ?_
      refine lv_iload_n C.1 C.2.1 dX5_isError_26 rfl (lv_at hl 0 rfl) ?_
      refine va_ldcS C.1 C.2.1 C.2.2.2.1 C.2.2.2.2.2.2.2.2.2.1.2.2.2.2.2.2.1 dX5_isError_27 ?_
      refine z_readV C (As := [zN (e1 F tb k), .ref (Z.2.2.1 1)]) (rest := []) (c_X7_says l Z hM hB hP (w := 1) (by decide) hc7.2.1 (hpp.nm hc7.2.2).1) hM.pol rfl ⟨⟨zw_17_2, zw_2_19, zw_25_9⟩, zd_X7_says⟩ zw_17_0 zw_17_1 ⟨Nat.le_of_ble_eq_true rfl, Nat.le_of_ble_eq_true rfl⟩ ⟨rfl, rfl⟩ rfl hl.1 rfl (Nat.le_of_ble_eq_true rfl) dX5_isError_29 ⟨Nat.zero_le _, Nat.zero_le _⟩ hS (fun locs hS => ?_)
      refine y_ifb_ne (tgt := 65) C dX5_isError_32 (by decide) (fun h32 => ?_) (fun h32 => ?_)
      · refine lv_iconst (v := zI 1) C.1 C.2.1 dX5_isError_65 (by decide) ?_
        refine lv_goto (tgt := 70) C.1 C.2.1 dX5_isError_66 (by decide) ?_
        exact hret _ _ _ _ (zI 1) hS ⟨congrArg (fun x : Int => some (zV x)) (by unfold erB; rw [if_neg (by omega), if_pos h13, erL_any]; (first | (rw [h32]; rfl) | (rw [h42]; simp; rfl) | (rw [h52]; simp; rfl) | (rw [h62]; simp; rfl))), rfl⟩ rfl dX5_isError_70
      · refine lv_aload_n C.1 C.2.1 dX5_isError_35 rfl (lv_at hl 1 rfl) ?_
        refine lv_iload_n C.1 C.2.1 dX5_isError_36 rfl (lv_at hl 0 rfl) ?_
        refine va_ldcS C.1 C.2.1 C.2.2.2.1 C.2.2.2.2.2.2.2.2.2.1.2.2.2.2.2.2.2.1 dX5_isError_37 ?_
        refine z_readV C (As := [zN (e1 F tb k), .ref (Z.2.2.1 2)]) (rest := []) (c_X7_says l Z hM hB hP (w := 2) (by decide) hc7.2.1 (hpp.nm hc7.2.2).1) hM.pol rfl ⟨⟨zw_17_2, zw_2_19, zw_25_9⟩, zd_X7_says⟩ zw_17_0 zw_17_1 ⟨Nat.le_of_ble_eq_true rfl, Nat.le_of_ble_eq_true rfl⟩ ⟨rfl, rfl⟩ rfl hl.1 rfl (Nat.le_of_ble_eq_true rfl) dX5_isError_39 ⟨Nat.zero_le _, Nat.zero_le _⟩ hS (fun locs hS => ?_)
        refine y_ifb_ne (tgt := 65) C dX5_isError_42 (by decide) (fun h42 => ?_) (fun h42 => ?_)
        · refine lv_iconst (v := zI 1) C.1 C.2.1 dX5_isError_65 (by decide) ?_
          refine lv_goto (tgt := 70) C.1 C.2.1 dX5_isError_66 (by decide) ?_
          exact hret _ _ _ _ (zI 1) hS ⟨congrArg (fun x : Int => some (zV x)) (by unfold erB; rw [if_neg (by omega), if_pos h13, erL_any]; (first | (rw [h32]; rfl) | (rw [h42]; simp; rfl) | (rw [h52]; simp; rfl) | (rw [h62]; simp; rfl))), rfl⟩ rfl dX5_isError_70
        · refine lv_aload_n C.1 C.2.1 dX5_isError_45 rfl (lv_at hl 1 rfl) ?_
          refine lv_iload_n C.1 C.2.1 dX5_isError_46 rfl (lv_at hl 0 rfl) ?_
          refine va_ldcS C.1 C.2.1 C.2.2.2.1 C.2.2.2.2.2.2.2.2.2.1.2.2.2.2.2.2.2.2.1 dX5_isError_47 ?_
          refine z_readV C (As := [zN (e1 F tb k), .ref (Z.2.2.1 3)]) (rest := []) (c_X7_says l Z hM hB hP (w := 3) (by decide) hc7.2.1 (hpp.nm hc7.2.2).1) hM.pol rfl ⟨⟨zw_17_2, zw_2_19, zw_25_9⟩, zd_X7_says⟩ zw_17_0 zw_17_1 ⟨Nat.le_of_ble_eq_true rfl, Nat.le_of_ble_eq_true rfl⟩ ⟨rfl, rfl⟩ rfl hl.1 rfl (Nat.le_of_ble_eq_true rfl) dX5_isError_49 ⟨Nat.zero_le _, Nat.zero_le _⟩ hS (fun locs hS => ?_)
          refine y_ifb_ne (tgt := 65) C dX5_isError_52 (by decide) (fun h52 => ?_) (fun h52 => ?_)
          · refine lv_iconst (v := zI 1) C.1 C.2.1 dX5_isError_65 (by decide) ?_
            refine lv_goto (tgt := 70) C.1 C.2.1 dX5_isError_66 (by decide) ?_
            exact hret _ _ _ _ (zI 1) hS ⟨congrArg (fun x : Int => some (zV x)) (by unfold erB; rw [if_neg (by omega), if_pos h13, erL_any]; (first | (rw [h32]; rfl) | (rw [h42]; simp; rfl) | (rw [h52]; simp; rfl) | (rw [h62]; simp; rfl))), rfl⟩ rfl dX5_isError_70
          · refine lv_aload_n C.1 C.2.1 dX5_isError_55 rfl (lv_at hl 1 rfl) ?_
            refine lv_iload_n C.1 C.2.1 dX5_isError_56 rfl (lv_at hl 0 rfl) ?_
            refine va_ldcS C.1 C.2.1 C.2.2.2.1 C.2.2.2.2.2.2.2.2.2.1.2.2.2.2.2.2.2.2.2.1 dX5_isError_57 ?_
            refine z_readV C (As := [zN (e1 F tb k), .ref (Z.2.2.1 4)]) (rest := []) (c_X7_says l Z hM hB hP (w := 4) (by decide) hc7.2.1 (hpp.nm hc7.2.2).1) hM.pol rfl ⟨⟨zw_17_2, zw_2_19, zw_25_9⟩, zd_X7_says⟩ zw_17_0 zw_17_1 ⟨Nat.le_of_ble_eq_true rfl, Nat.le_of_ble_eq_true rfl⟩ ⟨rfl, rfl⟩ rfl hl.1 rfl (Nat.le_of_ble_eq_true rfl) dX5_isError_59 ⟨Nat.zero_le _, Nat.zero_le _⟩ hS (fun locs hS => ?_)
            refine y_ifb_eq (tgt := 69) C dX5_isError_62 (by decide) (fun h62 => ?_) (fun h62 => ?_)
            · refine lv_iconst (v := zI 0) C.1 C.2.1 dX5_isError_69 (by decide) ?_
              exact hret _ _ _ _ (zI 0) hS ⟨congrArg (fun x : Int => some (zV x)) (by unfold erB; rw [if_neg (by omega), if_pos h13, erL_any]; rw [h32, h42, h52, h62]; rfl), rfl⟩ rfl dX5_isError_70
            · refine lv_iconst (v := zI 1) C.1 C.2.1 dX5_isError_65 (by decide) ?_
              refine lv_goto (tgt := 70) C.1 C.2.1 dX5_isError_66 (by decide) ?_
              exact hret _ _ _ _ (zI 1) hS ⟨congrArg (fun x : Int => some (zV x)) (by unfold erB; rw [if_neg (by omega), if_pos h13, erL_any]; (first | (rw [h32]; rfl) | (rw [h42]; simp; rfl) | (rw [h52]; simp; rfl) | (rw [h62]; simp; rfl))), rfl⟩ rfl dX5_isError_70
    · refine lv_iconst (v := zI 0) C.1 C.2.1 dX5_isError_16 (by decide) ?_
      exact hret _ _ _ _ (zI 0) hS ⟨congrArg (fun x : Int => some (zV x)) (by unfold erB; rw [if_neg (by omega), if_neg (by rw [h13]; decide)]; rfl), rfl⟩ rfl dX5_isError_17
  · refine lv_iconst (v := zI 1) C.1 C.2.1 dX5_isError_4 (by decide) ?_
    exact hret _ _ _ _ (zI 1) hS ⟨congrArg (fun x : Int => some (zV x)) (by unfold erB; rw [if_pos (by omega)]; rfl), rfl⟩ rfl dX5_isError_5

theorem num_f {x : Int} {b : Bool} (h : (x = -1 ∧ b = false) ∨ (x ≠ -1 ∧ b = true)) (e : x = -1) : b = false := by rcases h with z | z; exact z.2; exact absurd e z.1
theorem num_t {x : Int} {b : Bool} (h : (x = -1 ∧ b = false) ∨ (x ≠ -1 ∧ b = true)) (e : x ≠ -1) : b = true := by rcases h with z | z; exact absurd z.1 e; exact z.2
theorem cat_t {F : Nat → Nat} {ca sz N q : Nat} (h1 : (numC F ca sz N (U2 F q : Int) = -1 ∧ ptOk sz (nbR F ca sz N) (U2 F q : Int) = false) ∨ (numC F ca sz N (U2 F q : Int) ≠ -1 ∧ ptOk sz (nbR F ca sz N) (U2 F q : Int) = true)) (h2 : U2 F (q + 2) = sz ∨ ptOk sz (nbR F ca sz N) (U2 F (q + 2) : Int) = true) (h3 : (numC F ca sz N (U2 F (q + 4) : Int) = -1 ∧ ptOk sz (nbR F ca sz N) (U2 F (q + 4) : Int) = false) ∨ (numC F ca sz N (U2 F (q + 4) : Int) ≠ -1 ∧ ptOk sz (nbR F ca sz N) (U2 F (q + 4) : Int) = true)) (e : U2 F q < U2 F (q + 2)) (f : numC F ca sz N (U2 F q : Int) ≠ -1 ∧ numC F ca sz N (U2 F (q + 4) : Int) ≠ -1) : ptOk sz (nbR F ca sz N) (U2 F q : Int) = true ∧ (U2 F (q + 2) = sz ∨ ptOk sz (nbR F ca sz N) (U2 F (q + 2) : Int) = true) ∧ ptOk sz (nbR F ca sz N) (U2 F (q + 4) : Int) = true ∧ U2 F q < U2 F (q + 2) := ⟨num_t h1 f.1, h2, num_t h3 f.2, e⟩

set_option maxHeartbeats 4000000 in
set_option maxRecDepth 20000 in
theorem c_X5_catchPointsWell (l : Launch) (Z : zT) {H : Heap} {ad : Nat → Nat} {τ : mS} {X : List (Nat × va_E)} (hM : isC Z H ad τ X) {F : Nat → Nat} {n : Nat} (hB : cSrc τ F n) {ca sz ml ch cn f0 N bm : Nat} (hm : cMt τ F n ca sz ml ch cn f0 N bm) {tb : Nat → Nat} (hP : cPl τ F tb (U2 F 8)) (hpp : pPl F n tb (U2 F 8)) (hx6 : x6 F tb (U2 F 8) = none) {k : Nat} (hk : k + 8 ≤ n) : zP l Z yX5_catchPointsWell cX5_catchPointsWell 6 (some .boolean) (rmk 7) [.ref (ad 0), .ref (ad (16 + bm)), zN k] H (zV (bI ((ctR F tb (U2 F 8) sz (nbR F ca sz N) k).isNone))) := by
  have hn := hB.2.2.2
  obtain ⟨m1, m2, m3, m4, m5, m6, m7, m8, m9, m10, m11, m12, m13, m14⟩ := id hm
  refine zM.introI (own := RX5) ⟨by decide, rfl⟩ (Nat.le_of_ble_eq_true rfl) ?_
  intro p e s m args below meth c Q ls hH C hl hret
  have hS : va_S (fun _ => False) s.heap H [] := by rw [hH]; exact va_S.rf
  have hl : lv_has ls 6 [(0, .ref (ad 0)), (1, .ref (ad (16 + bm))), (2, zN k)] := hl
  refine lv_aload_n C.1 C.2.1 dX5_catchPointsWell_0 rfl (lv_at hl 0 rfl) ?_
  refine z_get C (v := .ref (ad 1)) hM.img rfl bi_wsX20 0 (by decide) zw_20_18 rfl rfl dX5_catchPointsWell_1 ?_
  refine lv_iload_n C.1 C.2.1 dX5_catchPointsWell_4 rfl (lv_at hl 2 rfl) ?_
  refine z_readV C (As := [zN k]) (rest := []) (c_u2 l Z hM hB k rfl (by omega)) hM.byt rfl ⟨⟨zw_10_5, zw_2_15, zw_22_4⟩, zd_X1_u2⟩ zw_10_3 zw_10_4 ⟨Nat.le_of_ble_eq_true rfl, Nat.le_of_ble_eq_true rfl⟩ ⟨rfl, rfl⟩ rfl hl.1 rfl (Nat.le_of_ble_eq_true rfl) dX5_catchPointsWell_5 ⟨Nat.zero_le _, Nat.zero_le _⟩ hS (fun locs hS => ?_)
  have := U2_lt hB.1 k
  refine lv_istore_n (lv' := [(3, zN (U2 F k)), (0, .ref (ad 0)), (1, .ref (ad (16 + bm))), (2, zN k)]) C.1 C.2.1 dX5_catchPointsWell_8 rfl hl (by decide) rfl (fun ls hl => ?_)
  refine lv_aload_n C.1 C.2.1 dX5_catchPointsWell_9 rfl (lv_at hl 1 rfl) ?_
  refine z_get C (v := .ref (ad 1)) hM.img rfl bi_wsX20 0 (by decide) zw_20_18 rfl rfl dX5_catchPointsWell_10 ?_
  refine lv_iload_n C.1 C.2.1 dX5_catchPointsWell_13 rfl (lv_at hl 3 rfl) ?_
  refine lv_iconst (v := zI 2) C.1 C.2.1 dX5_catchPointsWell_14 (by decide) ?_
  refine y_iaddN C (a := k) (b := 2) dX5_catchPointsWell_15 ?_
  refine z_readV C (As := [zN (k + 2)]) (rest := []) (c_u2 l Z hM hB (k + 2) rfl (by omega)) hM.byt rfl ⟨⟨zw_10_5, zw_2_15, zw_22_4⟩, zd_X1_u2⟩ zw_10_3 zw_10_4 ⟨Nat.le_of_ble_eq_true rfl, Nat.le_of_ble_eq_true rfl⟩ ⟨rfl, rfl⟩ rfl hl.1 rfl (Nat.le_of_ble_eq_true rfl) dX5_catchPointsWell_16 ⟨Nat.zero_le _, Nat.zero_le _⟩ hS (fun locs hS => ?_)
  have := U2_lt hB.1 (k + 2)
  refine lv_istore (lv' := [(4, zN (U2 F (k + 2))), (3, zN (U2 F k)), (0, .ref (ad 0)), (1, .ref (ad (16 + bm))), (2, zN k)]) C.1 C.2.1 dX5_catchPointsWell_19 hl (by decide) rfl (fun ls hl => ?_)
  refine lv_aload_n C.1 C.2.1 dX5_catchPointsWell_21 rfl (lv_at hl 2 rfl) ?_
  refine z_get C (v := .ref (ad 1)) hM.img rfl bi_wsX20 0 (by decide) zw_20_18 rfl rfl dX5_catchPointsWell_22 ?_
  refine lv_iload_n C.1 C.2.1 dX5_catchPointsWell_25 rfl (lv_at hl 4 rfl) ?_
  refine lv_iconst (v := zI 4) C.1 C.2.1 dX5_catchPointsWell_26 (by decide) ?_
  refine y_iaddN C (a := k) (b := 4) dX5_catchPointsWell_27 ?_
  refine z_readV C (As := [zN (k + 4)]) (rest := []) (c_u2 l Z hM hB (k + 4) rfl (by omega)) hM.byt rfl ⟨⟨zw_10_5, zw_2_15, zw_22_4⟩, zd_X1_u2⟩ zw_10_3 zw_10_4 ⟨Nat.le_of_ble_eq_true rfl, Nat.le_of_ble_eq_true rfl⟩ ⟨rfl, rfl⟩ rfl hl.1 rfl (Nat.le_of_ble_eq_true rfl) dX5_catchPointsWell_28 ⟨Nat.zero_le _, Nat.zero_le _⟩ hS (fun locs hS => ?_)
  have := U2_lt hB.1 (k + 4)
  refine lv_istore (lv' := [(5, zN (U2 F (k + 4))), (4, zN (U2 F (k + 2))), (3, zN (U2 F k)), (0, .ref (ad 0)), (1, .ref (ad (16 + bm))), (2, zN k)]) C.1 C.2.1 dX5_catchPointsWell_31 hl (by decide) rfl (fun ls hl => ?_)
  refine lv_iload_n C.1 C.2.1 dX5_catchPointsWell_33 rfl (lv_at hl 2 rfl) ?_
  refine lv_iload C.1 C.2.1 dX5_catchPointsWell_34 (lv_at hl 1 rfl) ?_
  refine y_icmp_ge (tgt := 54) C (a := ((U2 F k : Nat) : Int)) (b := ((U2 F (k + 2) : Nat) : Int)) dX5_catchPointsWell_36 (by decide) (by omega) (fun h36 => ?_) (fun h36 => ?_)
  · refine lv_iconst (v := zI 0) C.1 C.2.1 dX5_catchPointsWell_54 (by decide) ?_
    exact hret _ _ _ _ (zI 0) hS ⟨congrArg (fun x : Int => some (zV x)) (by rw [ctR_i, decide_eq_false (fun z => absurd z.2.2.2 (by omega))]; rfl), rfl⟩ rfl dX5_catchPointsWell_55
  · refine lv_aload_n C.1 C.2.1 dX5_catchPointsWell_39 rfl (lv_at hl 3 rfl) ?_
    refine lv_aload_n C.1 C.2.1 dX5_catchPointsWell_40 rfl (lv_at hl 4 rfl) ?_
    refine lv_aload_n C.1 C.2.1 dX5_catchPointsWell_41 rfl (lv_at hl 4 rfl) ?_
    refine z_get C (v := .int (τ.2.1 24 bm)) (hM.bod bm (by omega)) rfl bi_wsX00 4 (by decide) zw_20_16 rfl rfl dX5_catchPointsWell_42 ?_
    refine z_re (y := zI ((ca : Nat) : Int)) m8 ?_
    refine lv_iload_n C.1 C.2.1 dX5_catchPointsWell_45 rfl (lv_at hl 2 rfl) ?_
    refine y_iaddN C (a := ca) (b := U2 F k) dX5_catchPointsWell_46 ?_
    refine z_readV C (As := [.ref (ad (16 + bm)), zN (ca + (U2 F k))]) (rest := []) (c_num l Z hM hm hn (T := ((ca + (U2 F k) : Nat) : Int)) (t := (U2 F k : Int)) (by omega) (by omega)) hM.img rfl ⟨⟨zw_24_3, zw_1_18, zw_24_0⟩, zd_X2_numberAt⟩ zw_24_1 zw_24_2 ⟨Nat.le_of_ble_eq_true rfl, Nat.le_of_ble_eq_true rfl⟩ ⟨rfl, rfl⟩ rfl hl.1 rfl (Nat.le_of_ble_eq_true rfl) dX5_catchPointsWell_47 ⟨Nat.zero_le _, Nat.zero_le _⟩ hS (fun locs hS => ?_)
    have hnc47 := numC_rg F ca sz N ((U2 F k : Int))
    have hnd47 := numC_c F ca sz N ((U2 F k : Int))
    refine lv_iconst (v := zI (-1)) C.1 C.2.1 dX5_catchPointsWell_50 (by decide) ?_
    refine y_icmp_ne (tgt := 56) C (a := numC F ca sz N ((U2 F k : Int))) (b := -1) dX5_catchPointsWell_51 (by decide) (by omega) (fun h51 => ?_) (fun h51 => ?_)
    · refine lv_iload C.1 C.2.1 dX5_catchPointsWell_56 (lv_at hl 1 rfl) ?_
      refine lv_aload_n C.1 C.2.1 dX5_catchPointsWell_58 rfl (lv_at hl 4 rfl) ?_
      refine z_get C (v := .int (τ.2.1 25 bm)) (hM.bod bm (by omega)) rfl bi_wsX00 5 (by decide) zw_20_17 rfl rfl dX5_catchPointsWell_59 ?_
      refine z_re (y := zI ((sz : Nat) : Int)) m9 ?_
      refine y_icmp_eq (tgt := 83) C (a := ((U2 F (k + 2) : Nat) : Int)) (b := ((sz : Nat) : Int)) dX5_catchPointsWell_62 (by decide) (by omega) (fun h62 => ?_) (fun h62 => ?_)
      · refine lv_aload_n C.1 C.2.1 dX5_catchPointsWell_83 rfl (lv_at hl 3 rfl) ?_
        refine lv_aload_n C.1 C.2.1 dX5_catchPointsWell_84 rfl (lv_at hl 4 rfl) ?_
        refine lv_aload_n C.1 C.2.1 dX5_catchPointsWell_85 rfl (lv_at hl 4 rfl) ?_
        refine z_get C (v := .int (τ.2.1 24 bm)) (hM.bod bm (by omega)) rfl bi_wsX00 4 (by decide) zw_20_16 rfl rfl dX5_catchPointsWell_86 ?_
        refine z_re (y := zI ((ca : Nat) : Int)) m8 ?_
        refine lv_iload C.1 C.2.1 dX5_catchPointsWell_89 (lv_at hl 0 rfl) ?_
        refine y_iaddN C (a := ca) (b := U2 F (k + 4)) dX5_catchPointsWell_91 ?_
        refine z_readV C (As := [.ref (ad (16 + bm)), zN (ca + (U2 F (k + 4)))]) (rest := []) (c_num l Z hM hm hn (T := ((ca + (U2 F (k + 4)) : Nat) : Int)) (t := (U2 F (k + 4) : Int)) (by omega) (by omega)) hM.img rfl ⟨⟨zw_24_3, zw_1_18, zw_24_0⟩, zd_X2_numberAt⟩ zw_24_1 zw_24_2 ⟨Nat.le_of_ble_eq_true rfl, Nat.le_of_ble_eq_true rfl⟩ ⟨rfl, rfl⟩ rfl hl.1 rfl (Nat.le_of_ble_eq_true rfl) dX5_catchPointsWell_92 ⟨Nat.zero_le _, Nat.zero_le _⟩ hS (fun locs hS => ?_)
        have hnc92 := numC_rg F ca sz N ((U2 F (k + 4) : Int))
        have hnd92 := numC_c F ca sz N ((U2 F (k + 4) : Int))
        refine lv_iconst (v := zI (-1)) C.1 C.2.1 dX5_catchPointsWell_95 (by decide) ?_
        refine y_icmp_eq (tgt := 124) C (a := numC F ca sz N ((U2 F (k + 4) : Int))) (b := -1) dX5_catchPointsWell_96 (by decide) (by omega) (fun h96 => ?_) (fun h96 => ?_)
        · refine lv_iconst (v := zI 0) C.1 C.2.1 dX5_catchPointsWell_124 (by decide) ?_
          exact hret _ _ _ _ (zI 0) hS ⟨congrArg (fun x : Int => some (zV x)) (by rw [ctR_i, decide_eq_false (fun z => absurd (num_f hnd92 (by omega)) (by rw [z.2.2.1]; decide))]; rfl), rfl⟩ rfl dX5_catchPointsWell_125
        · refine lv_aload_n C.1 C.2.1 dX5_catchPointsWell_99 rfl (lv_at hl 3 rfl) ?_
          refine z_get C (v := .ref (ad 3)) hM.img rfl bi_wsX20 1 (by decide) zw_21_22 rfl rfl dX5_catchPointsWell_100 ?_
          refine lv_aload_n C.1 C.2.1 dX5_catchPointsWell_103 rfl (lv_at hl 3 rfl) ?_
          refine z_get C (v := .ref (ad 1)) hM.img rfl bi_wsX20 0 (by decide) zw_20_18 rfl rfl dX5_catchPointsWell_104 ?_
          refine lv_iload_n C.1 C.2.1 dX5_catchPointsWell_107 rfl (lv_at hl 5 rfl) ?_
          refine lv_bipush (v := zI 6) C.1 C.2.1 dX5_catchPointsWell_108 (by decide) ?_
          refine y_iaddN C (a := k) (b := 6) dX5_catchPointsWell_110 ?_
          refine z_readV C (As := [zN (k + 6)]) (rest := [.ref (ad 3)]) (c_u2 l Z hM hB (k + 6) rfl (by omega)) hM.byt rfl ⟨⟨zw_10_5, zw_2_15, zw_22_4⟩, zd_X1_u2⟩ zw_10_3 zw_10_4 ⟨Nat.le_of_ble_eq_true rfl, Nat.le_of_ble_eq_true rfl⟩ ⟨rfl, rfl⟩ rfl hl.1 rfl (Nat.le_of_ble_eq_true rfl) dX5_catchPointsWell_111 ⟨Nat.zero_le _, Nat.zero_le _⟩ hS (fun locs hS => ?_)
          have := U2_lt hB.1 (k + 6)
          refine z_readS C (As := [.ref (ad 3), zN (U2 F (k + 6))]) (rest := []) (c_X5_isError l Z hM hB hP hpp hx6 (k := U2 F (k + 6)) (by omega)) ⟨⟨zw_25_8, zw_20_6, zw_25_6⟩, zd_X5_isError⟩ zw_25_7 ⟨Nat.le_of_ble_eq_true rfl, Nat.le_of_ble_eq_true rfl⟩ ⟨rfl, rfl⟩ rfl hl.1 rfl (Nat.le_of_ble_eq_true rfl) dX5_catchPointsWell_114 ⟨Nat.zero_le _, Nat.zero_le _⟩ hS (fun locs hS => ?_)
          refine y_ifb_eq (tgt := 124) C dX5_catchPointsWell_117 (by decide) (fun h117 => ?_) (fun h117 => ?_)
          · refine lv_iconst (v := zI 0) C.1 C.2.1 dX5_catchPointsWell_124 (by decide) ?_
            exact hret _ _ _ _ (zI 0) hS ⟨congrArg (fun x : Int => some (zV x)) (by rw [ctR_i, h117, Bool.and_false]; rfl), rfl⟩ rfl dX5_catchPointsWell_125
          · refine lv_iconst (v := zI 1) C.1 C.2.1 dX5_catchPointsWell_120 (by decide) ?_
            refine lv_goto (tgt := 125) C.1 C.2.1 dX5_catchPointsWell_121 (by decide) ?_
            exact hret _ _ _ _ (zI 1) hS ⟨congrArg (fun x : Int => some (zV x)) (by rw [ctR_i, decide_eq_true (cat_t hnd47 (Or.inl (by omega)) hnd92 (by omega) (by omega)), h117]; rfl), rfl⟩ rfl dX5_catchPointsWell_125
      · refine lv_aload_n C.1 C.2.1 dX5_catchPointsWell_65 rfl (lv_at hl 3 rfl) ?_
        refine lv_aload_n C.1 C.2.1 dX5_catchPointsWell_66 rfl (lv_at hl 4 rfl) ?_
        refine lv_aload_n C.1 C.2.1 dX5_catchPointsWell_67 rfl (lv_at hl 4 rfl) ?_
        refine z_get C (v := .int (τ.2.1 24 bm)) (hM.bod bm (by omega)) rfl bi_wsX00 4 (by decide) zw_20_16 rfl rfl dX5_catchPointsWell_68 ?_
        refine z_re (y := zI ((ca : Nat) : Int)) m8 ?_
        refine lv_iload C.1 C.2.1 dX5_catchPointsWell_71 (lv_at hl 1 rfl) ?_
        refine y_iaddN C (a := ca) (b := U2 F (k + 2)) dX5_catchPointsWell_73 ?_
        refine z_readV C (As := [.ref (ad (16 + bm)), zN (ca + (U2 F (k + 2)))]) (rest := []) (c_num l Z hM hm hn (T := ((ca + (U2 F (k + 2)) : Nat) : Int)) (t := (U2 F (k + 2) : Int)) (by omega) (by omega)) hM.img rfl ⟨⟨zw_24_3, zw_1_18, zw_24_0⟩, zd_X2_numberAt⟩ zw_24_1 zw_24_2 ⟨Nat.le_of_ble_eq_true rfl, Nat.le_of_ble_eq_true rfl⟩ ⟨rfl, rfl⟩ rfl hl.1 rfl (Nat.le_of_ble_eq_true rfl) dX5_catchPointsWell_74 ⟨Nat.zero_le _, Nat.zero_le _⟩ hS (fun locs hS => ?_)
        have hnc74 := numC_rg F ca sz N ((U2 F (k + 2) : Int))
        have hnd74 := numC_c F ca sz N ((U2 F (k + 2) : Int))
        refine lv_iconst (v := zI (-1)) C.1 C.2.1 dX5_catchPointsWell_77 (by decide) ?_
        refine y_icmp_ne (tgt := 83) C (a := numC F ca sz N ((U2 F (k + 2) : Int))) (b := -1) dX5_catchPointsWell_78 (by decide) (by omega) (fun h78 => ?_) (fun h78 => ?_)
        · have hpt74 := num_t hnd74 (by omega)
          refine lv_aload_n C.1 C.2.1 dX5_catchPointsWell_83 rfl (lv_at hl 3 rfl) ?_
          refine lv_aload_n C.1 C.2.1 dX5_catchPointsWell_84 rfl (lv_at hl 4 rfl) ?_
          refine lv_aload_n C.1 C.2.1 dX5_catchPointsWell_85 rfl (lv_at hl 4 rfl) ?_
          refine z_get C (v := .int (τ.2.1 24 bm)) (hM.bod bm (by omega)) rfl bi_wsX00 4 (by decide) zw_20_16 rfl rfl dX5_catchPointsWell_86 ?_
          refine z_re (y := zI ((ca : Nat) : Int)) m8 ?_
          refine lv_iload C.1 C.2.1 dX5_catchPointsWell_89 (lv_at hl 0 rfl) ?_
          refine y_iaddN C (a := ca) (b := U2 F (k + 4)) dX5_catchPointsWell_91 ?_
          refine z_readV C (As := [.ref (ad (16 + bm)), zN (ca + (U2 F (k + 4)))]) (rest := []) (c_num l Z hM hm hn (T := ((ca + (U2 F (k + 4)) : Nat) : Int)) (t := (U2 F (k + 4) : Int)) (by omega) (by omega)) hM.img rfl ⟨⟨zw_24_3, zw_1_18, zw_24_0⟩, zd_X2_numberAt⟩ zw_24_1 zw_24_2 ⟨Nat.le_of_ble_eq_true rfl, Nat.le_of_ble_eq_true rfl⟩ ⟨rfl, rfl⟩ rfl hl.1 rfl (Nat.le_of_ble_eq_true rfl) dX5_catchPointsWell_92 ⟨Nat.zero_le _, Nat.zero_le _⟩ hS (fun locs hS => ?_)
          have hnc92 := numC_rg F ca sz N ((U2 F (k + 4) : Int))
          have hnd92 := numC_c F ca sz N ((U2 F (k + 4) : Int))
          refine lv_iconst (v := zI (-1)) C.1 C.2.1 dX5_catchPointsWell_95 (by decide) ?_
          refine y_icmp_eq (tgt := 124) C (a := numC F ca sz N ((U2 F (k + 4) : Int))) (b := -1) dX5_catchPointsWell_96 (by decide) (by omega) (fun h96 => ?_) (fun h96 => ?_)
          · refine lv_iconst (v := zI 0) C.1 C.2.1 dX5_catchPointsWell_124 (by decide) ?_
            exact hret _ _ _ _ (zI 0) hS ⟨congrArg (fun x : Int => some (zV x)) (by rw [ctR_i, decide_eq_false (fun z => absurd (num_f hnd92 (by omega)) (by rw [z.2.2.1]; decide))]; rfl), rfl⟩ rfl dX5_catchPointsWell_125
          · refine lv_aload_n C.1 C.2.1 dX5_catchPointsWell_99 rfl (lv_at hl 3 rfl) ?_
            refine z_get C (v := .ref (ad 3)) hM.img rfl bi_wsX20 1 (by decide) zw_21_22 rfl rfl dX5_catchPointsWell_100 ?_
            refine lv_aload_n C.1 C.2.1 dX5_catchPointsWell_103 rfl (lv_at hl 3 rfl) ?_
            refine z_get C (v := .ref (ad 1)) hM.img rfl bi_wsX20 0 (by decide) zw_20_18 rfl rfl dX5_catchPointsWell_104 ?_
            refine lv_iload_n C.1 C.2.1 dX5_catchPointsWell_107 rfl (lv_at hl 5 rfl) ?_
            refine lv_bipush (v := zI 6) C.1 C.2.1 dX5_catchPointsWell_108 (by decide) ?_
            refine y_iaddN C (a := k) (b := 6) dX5_catchPointsWell_110 ?_
            refine z_readV C (As := [zN (k + 6)]) (rest := [.ref (ad 3)]) (c_u2 l Z hM hB (k + 6) rfl (by omega)) hM.byt rfl ⟨⟨zw_10_5, zw_2_15, zw_22_4⟩, zd_X1_u2⟩ zw_10_3 zw_10_4 ⟨Nat.le_of_ble_eq_true rfl, Nat.le_of_ble_eq_true rfl⟩ ⟨rfl, rfl⟩ rfl hl.1 rfl (Nat.le_of_ble_eq_true rfl) dX5_catchPointsWell_111 ⟨Nat.zero_le _, Nat.zero_le _⟩ hS (fun locs hS => ?_)
            have := U2_lt hB.1 (k + 6)
            refine z_readS C (As := [.ref (ad 3), zN (U2 F (k + 6))]) (rest := []) (c_X5_isError l Z hM hB hP hpp hx6 (k := U2 F (k + 6)) (by omega)) ⟨⟨zw_25_8, zw_20_6, zw_25_6⟩, zd_X5_isError⟩ zw_25_7 ⟨Nat.le_of_ble_eq_true rfl, Nat.le_of_ble_eq_true rfl⟩ ⟨rfl, rfl⟩ rfl hl.1 rfl (Nat.le_of_ble_eq_true rfl) dX5_catchPointsWell_114 ⟨Nat.zero_le _, Nat.zero_le _⟩ hS (fun locs hS => ?_)
            refine y_ifb_eq (tgt := 124) C dX5_catchPointsWell_117 (by decide) (fun h117 => ?_) (fun h117 => ?_)
            · refine lv_iconst (v := zI 0) C.1 C.2.1 dX5_catchPointsWell_124 (by decide) ?_
              exact hret _ _ _ _ (zI 0) hS ⟨congrArg (fun x : Int => some (zV x)) (by rw [ctR_i, h117, Bool.and_false]; rfl), rfl⟩ rfl dX5_catchPointsWell_125
            · refine lv_iconst (v := zI 1) C.1 C.2.1 dX5_catchPointsWell_120 (by decide) ?_
              refine lv_goto (tgt := 125) C.1 C.2.1 dX5_catchPointsWell_121 (by decide) ?_
              exact hret _ _ _ _ (zI 1) hS ⟨congrArg (fun x : Int => some (zV x)) (by rw [ctR_i, decide_eq_true (cat_t hnd47 (Or.inr (by assumption)) hnd92 (by omega) (by omega)), h117]; rfl), rfl⟩ rfl dX5_catchPointsWell_125
        · refine lv_iconst (v := zI 0) C.1 C.2.1 dX5_catchPointsWell_81 (by decide) ?_
          exact hret _ _ _ _ (zI 0) hS ⟨congrArg (fun x : Int => some (zV x)) (by rw [ctR_i, decide_eq_false (fun z => (by rcases z.2.1 with y | y; (omega); (exact absurd (num_f hnd74 (by omega)) (by rw [y]; decide))))]; rfl), rfl⟩ rfl dX5_catchPointsWell_82
    · refine lv_iconst (v := zI 0) C.1 C.2.1 dX5_catchPointsWell_54 (by decide) ?_
      exact hret _ _ _ _ (zI 0) hS ⟨congrArg (fun x : Int => some (zV x)) (by rw [ctR_i, decide_eq_false (fun z => absurd (num_f hnd47 (by omega)) (by rw [z.1]; decide))]; rfl), rfl⟩ rfl dX5_catchPointsWell_55

theorem ctR_s {F tb : Nat → Nat} {pc sz : Nat} {na : Nat → Int} {q : Nat} (h : (ctR F tb pc sz na q).isNone = false) : ctR F tb pc sz na q = some q := by
  unfold ctR at *
  (repeat' split) <;> simp_all

set_option maxHeartbeats 4000000 in
set_option maxRecDepth 20000 in
theorem c_X5_wrongCatch (l : Launch) (Z : zT) {H : Heap} {ad : Nat → Nat} {τ : mS} {X : List (Nat × va_E)} (hM : isC Z H ad τ X) {F : Nat → Nat} {n : Nat} (hB : cSrc τ F n) {ca sz ml ch cn f0 N bm : Nat} (hm : cMt τ F n ca sz ml ch cn f0 N bm) {tb : Nat → Nat} (hP : cPl τ F tb (U2 F 8)) (hpp : pPl F n tb (U2 F 8)) (hx6 : x6 F tb (U2 F 8) = none) (hch : ch + 8 * cn ≤ n) (hcn : cn ≤ 16) : zP l Z yX5_wrongCatch cX5_wrongCatch 4 (some .int) (rmk 8) [.ref (ad 0), .ref (ad (16 + bm))] H (zV (oI (fst1 (fun k => ctR F tb (U2 F 8) sz (nbR F ca sz N) (ch + 8 * k)) cn 0))) := by
  have hn := hB.2.2.2
  obtain ⟨m1, m2, m3, m4, m5, m6, m7, m8, m9, m10, m11, m12, m13, m14⟩ := id hm
  refine zM.introI (own := RX5) ⟨by decide, rfl⟩ (Nat.le_of_ble_eq_true rfl) ?_
  intro p e s m args below meth c Q ls hH C hl hret
  have hS : va_S (fun _ => False) s.heap H [] := by rw [hH]; exact va_S.rf
  have hl : lv_has ls 4 [(0, .ref (ad 0)), (1, .ref (ad (16 + bm)))] := hl
  refine lv_iconst (v := zI 0) C.1 C.2.1 dX5_wrongCatch_0 (by decide) ?_
  refine lv_istore_n (lv' := [(2, zN 0), (0, .ref (ad 0)), (1, .ref (ad (16 + bm)))]) C.1 C.2.1 dX5_wrongCatch_1 rfl hl (by decide) rfl (fun ls hl => ?_)
  have loop : ∀ (fu : Nat) (i : Nat) (ls : Array Slot) (locs : List Loc), va_S (fun _ => False) s.heap H locs → (i ≤ cn ∧ cn < i + fu) → (fst1 (fun k => ctR F tb (U2 F 8) sz (nbR F ca sz N) (ch + 8 * k)) (cn - i) i = fst1 (fun k => ctR F tb (U2 F 8) sz (nbR F ca sz N) (ch + 8 * k)) cn 0) → lv_has ls 4 [(2, zN i), (0, .ref (ad 0)), (1, .ref (ad (16 + bm)))] → W p l e (rmk 8) s m args below meth c H locs 0 0 Q (F0 m 2 ls []) := by
    intro fu
    induction fu with
    | zero =>
      intro i ls locs hS hi he hl
      (exact absurd hi.2 (by omega))
    | succ fu ih_loop =>
      intro i ls locs hS hi he hl
      refine lv_iload_n C.1 C.2.1 dX5_wrongCatch_2 rfl (lv_at hl 0 rfl) ?_
      refine lv_aload_n C.1 C.2.1 dX5_wrongCatch_3 rfl (lv_at hl 2 rfl) ?_
      refine z_get C (v := .int (τ.2.1 27 bm)) (hM.bod bm (by omega)) rfl bi_wsX00 7 (by decide) zw_25_1 rfl rfl dX5_wrongCatch_4 ?_
      refine z_re (y := zI ((cn : Nat) : Int)) m11 ?_
      refine y_icmp_ge (tgt := 37) C (a := ((i : Nat) : Int)) (b := ((cn : Nat) : Int)) dX5_wrongCatch_7 (by decide) (by omega) (fun h7 => ?_) (fun h7 => ?_)
      · refine lv_iconst (v := zI (-1)) C.1 C.2.1 dX5_wrongCatch_37 (by decide) ?_
        exact hret _ _ _ _ (zI (-1)) hS ⟨congrArg (fun x : Int => some (zV x)) (by rw [← he, show cn - i = 0 by omega]; rfl), rfl⟩ rfl dX5_wrongCatch_38
      · refine lv_aload_n C.1 C.2.1 dX5_wrongCatch_10 rfl (lv_at hl 2 rfl) ?_
        refine z_get C (v := .int (τ.2.1 26 bm)) (hM.bod bm (by omega)) rfl bi_wsX00 6 (by decide) zw_25_2 rfl rfl dX5_wrongCatch_11 ?_
        refine z_re (y := zI ((ch : Nat) : Int)) m10 ?_
        refine lv_iload_n C.1 C.2.1 dX5_wrongCatch_14 rfl (lv_at hl 0 rfl) ?_
        refine lv_bipush (v := zI 8) C.1 C.2.1 dX5_wrongCatch_15 (by decide) ?_
        refine y_imulN C (a := i) (b := 8) dX5_wrongCatch_17 ?_
        refine y_iaddN C (a := ch) (b := i * 8) dX5_wrongCatch_18 ?_
        refine z_re (y := zI ((ch + 8 * i : Nat) : Int)) (zI_c (by omega)) ?_
        refine lv_istore_n (lv' := [(3, zN (ch + 8 * i)), (2, zN i), (0, .ref (ad 0)), (1, .ref (ad (16 + bm)))]) C.1 C.2.1 dX5_wrongCatch_19 rfl hl (by decide) rfl (fun ls hl => ?_)
        refine lv_aload_n C.1 C.2.1 dX5_wrongCatch_20 rfl (lv_at hl 2 rfl) ?_
        refine lv_aload_n C.1 C.2.1 dX5_wrongCatch_21 rfl (lv_at hl 3 rfl) ?_
        refine lv_iload_n C.1 C.2.1 dX5_wrongCatch_22 rfl (lv_at hl 0 rfl) ?_
        refine z_readS C (As := [.ref (ad 0), .ref (ad (16 + bm)), zN (ch + 8 * i)]) (rest := []) (c_X5_catchPointsWell l Z hM hB hm hP hpp hx6 (k := ch + 8 * i) (by omega)) ⟨⟨zw_25_5, zw_20_6, zw_25_3⟩, zd_X5_catchPointsWell⟩ zw_25_4 ⟨Nat.le_of_ble_eq_true rfl, Nat.le_of_ble_eq_true rfl⟩ ⟨rfl, rfl⟩ rfl hl.1 rfl (Nat.le_of_ble_eq_true rfl) dX5_wrongCatch_23 ⟨Nat.zero_le _, Nat.zero_le _⟩ hS (fun locs hS => ?_)
        refine y_ifb_ne (tgt := 31) C dX5_wrongCatch_26 (by decide) (fun h26 => ?_) (fun h26 => ?_)
        · refine lv_iinc (v := zI ((i + 1 : Nat) : Int)) (lv' := [(2, zN (i + 1)), (3, zN (ch + 8 * i)), (0, .ref (ad 0)), (1, .ref (ad (16 + bm)))]) C.1 C.2.1 dX5_wrongCatch_31 hl (k := 1) rfl (zI_add _ _) (by decide) rfl (fun ls hl => ?_)
          refine lv_goto (tgt := 2) C.1 C.2.1 dX5_wrongCatch_34 (by decide) ?_
          exact ih_loop (i + 1) ls _ hS (by omega) (by rw [← he, show cn - i = (cn - (i + 1)) + 1 by omega, fst1_s (g := fun k => ctR F tb (U2 F 8) sz (nbR F ca sz N) (ch + 8 * k)) (Option.isNone_iff_eq_none.mp h26)]) (lv_sub hl [0, 2, 3] rfl)
        · refine lv_iload_n C.1 C.2.1 dX5_wrongCatch_29 rfl (lv_at hl 0 rfl) ?_
          exact hret _ _ _ _ (zI ((ch + 8 * i : Nat) : Int)) hS ⟨congrArg (fun x : Int => some (zV x)) (by rw [← he, show cn - i = (cn - (i + 1)) + 1 by omega, fst1_e (g := fun k => ctR F tb (U2 F 8) sz (nbR F ca sz N) (ch + 8 * k)) (ctR_s h26)]; rfl), rfl⟩ rfl dX5_wrongCatch_30
  exact loop (cn + 1) 0 ls _ hS (by omega) rfl hl

set_option maxHeartbeats 4000000 in
set_option maxRecDepth 20000 in
theorem c_X5_wrongInstructionLink (l : Launch) (Z : zT) {H : Heap} {ad : Nat → Nat} {τ : mS} {X : List (Nat × va_E)} (hM : isC Z H ad τ X) {F : Nat → Nat} {n : Nat} (hB : cSrc τ F n) {ca sz ml ch cn f0 N bm : Nat} (hm : cMt τ F n ca sz ml ch cn f0 N bm) {tb mt : Nat → Nat} {cl nf nm : Nat} (hP : cPl τ F tb (U2 F 8)) (hmb : ∀ k, 1 ≤ k → k < U2 F 8 → τ.2.1 10 k = zI (mbC F tb mt cl nf nm k)) (hnfm : nf + nm ≤ 48) : zP l Z yX5_wrongInstructionLink cX5_wrongInstructionLink 4 (some .int) (rmk 6) [.ref (ad 0), .ref (ad (16 + bm))] H (zV (oI (fst1 (g16 F tb mt cl nf nm ca sz ml N) N 0))) := by
  have hn := hB.2.2.2
  obtain ⟨m1, m2, m3, m4, m5, m6, m7, m8, m9, m10, m11, m12, m13, m14⟩ := id hm
  refine zM.introI (own := RX5) ⟨by decide, rfl⟩ (Nat.le_of_ble_eq_true rfl) ?_
  intro p e s m args below meth c Q ls hH C hl hret
  have hS : va_S (fun _ => False) s.heap H [] := by rw [hH]; exact va_S.rf
  have hl : lv_has ls 4 [(0, .ref (ad 0)), (1, .ref (ad (16 + bm)))] := hl
  refine lv_iconst (v := zI 0) C.1 C.2.1 dX5_wrongInstructionLink_0 (by decide) ?_
  refine lv_istore_n (lv' := [(2, zN 0), (0, .ref (ad 0)), (1, .ref (ad (16 + bm)))]) C.1 C.2.1 dX5_wrongInstructionLink_1 rfl hl (by decide) rfl (fun ls hl => ?_)
  have loop : ∀ (fu : Nat) (i : Nat) (ls : Array Slot) (locs : List Loc), va_S (fun _ => False) s.heap H locs → (i ≤ N ∧ N < i + fu) → (fst1 (g16 F tb mt cl nf nm ca sz ml N) (N - i) i = fst1 (g16 F tb mt cl nf nm ca sz ml N) N 0) → lv_has ls 4 [(2, zN i), (0, .ref (ad 0)), (1, .ref (ad (16 + bm)))] → W p l e (rmk 6) s m args below meth c H locs 0 0 Q (F0 m 2 ls []) := by
    intro fu
    induction fu with
    | zero =>
      intro i ls locs hS hi he hl
      (exact absurd hi.2 (by omega))
    | succ fu ih_loop =>
      intro i ls locs hS hi he hl
      refine lv_iload_n C.1 C.2.1 dX5_wrongInstructionLink_2 rfl (lv_at hl 0 rfl) ?_
      refine lv_aload_n C.1 C.2.1 dX5_wrongInstructionLink_3 rfl (lv_at hl 2 rfl) ?_
      refine z_get C (v := .int (τ.2.1 29 bm)) (hM.bod bm (by omega)) rfl bi_wsX00 9 (by decide) zw_20_11 rfl rfl dX5_wrongInstructionLink_4 ?_
      refine z_re (y := zI ((N : Nat) : Int)) m13 ?_
      refine y_icmp_ge (tgt := 41) C (a := ((i : Nat) : Int)) (b := ((N : Nat) : Int)) dX5_wrongInstructionLink_7 (by decide) (by omega) (fun h7 => ?_) (fun h7 => ?_)
      · refine lv_iconst (v := zI (-1)) C.1 C.2.1 dX5_wrongInstructionLink_41 (by decide) ?_
        exact hret _ _ _ _ (zI (-1)) hS ⟨congrArg (fun x : Int => some (zV x)) (by rw [← he, show N - i = 0 by omega]; rfl), rfl⟩ rfl dX5_wrongInstructionLink_42
      · have hst := m4.2 i (by omega)
        have hNsz := isWh_le m4
        refine lv_aload_n C.1 C.2.1 dX5_wrongInstructionLink_10 rfl (lv_at hl 1 rfl) ?_
        refine z_get C (v := .ref (ad 14)) hM.img rfl bi_wsX20 5 (by decide) zw_20_19 rfl rfl dX5_wrongInstructionLink_11 ?_
        refine lv_aload_n C.1 C.2.1 dX5_wrongInstructionLink_14 rfl (lv_at hl 2 rfl) ?_
        refine z_get C (v := .int (τ.2.1 28 bm)) (hM.bod bm (by omega)) rfl bi_wsX00 8 (by decide) zw_20_10 rfl rfl dX5_wrongInstructionLink_15 ?_
        refine z_re (y := zI ((f0 : Nat) : Int)) m12 ?_
        refine lv_iload_n C.1 C.2.1 dX5_wrongInstructionLink_18 rfl (lv_at hl 0 rfl) ?_
        refine y_iaddN C (a := f0) (b := i) dX5_wrongInstructionLink_19 ?_
        refine z_readSN C (As := [.ref (ad 14), zN (f0 + i)]) (rest := []) (c_at l Z (hM.row 14 (by decide)) (by decide) (f0 + i) rfl (by show _ < 16000; omega)) ⟨⟨zw_11_13, zw_1_2⟩, zd_X11_at⟩ (by decide) zw_11_12 ⟨Nat.le_of_ble_eq_true rfl, Nat.le_of_ble_eq_true rfl⟩ ⟨rfl, rfl⟩ rfl hl.1 rfl (Nat.le_of_ble_eq_true rfl) dX5_wrongInstructionLink_20 ⟨Nat.zero_le _, Nat.zero_le _⟩ hS (fun locs hS => ?_)
        refine z_re (y := zI ((ca + stF F ca sz i : Nat) : Int)) (m14 i (by omega)) ?_
        refine lv_istore_n (lv' := [(3, zN (ca + stF F ca sz i)), (2, zN i), (0, .ref (ad 0)), (1, .ref (ad (16 + bm)))]) C.1 C.2.1 dX5_wrongInstructionLink_23 rfl hl (by decide) rfl (fun ls hl => ?_)
        refine lv_aload_n C.1 C.2.1 dX5_wrongInstructionLink_24 rfl (lv_at hl 2 rfl) ?_
        refine lv_aload_n C.1 C.2.1 dX5_wrongInstructionLink_25 rfl (lv_at hl 3 rfl) ?_
        refine lv_iload_n C.1 C.2.1 dX5_wrongInstructionLink_26 rfl (lv_at hl 0 rfl) ?_
        refine z_readS C (As := [.ref (ad 0), .ref (ad (16 + bm)), zN (ca + stF F ca sz i)]) (rest := []) (c_X5_pointsWell l Z hM hB hm hP hmb hnfm (mt := mt) (cl := cl) (nf := nf) (nm := nm) (q := stF F ca sz i) hst.1 hst.2) ⟨⟨zw_22_18, zw_20_6, zw_22_16⟩, zd_X5_pointsWell⟩ zw_22_17 ⟨Nat.le_of_ble_eq_true rfl, Nat.le_of_ble_eq_true rfl⟩ ⟨rfl, rfl⟩ rfl hl.1 rfl (Nat.le_of_ble_eq_true rfl) dX5_wrongInstructionLink_27 ⟨Nat.zero_le _, Nat.zero_le _⟩ hS (fun locs hS => ?_)
        refine y_ifb_ne (tgt := 35) C dX5_wrongInstructionLink_30 (by decide) (fun h30 => ?_) (fun h30 => ?_)
        · refine lv_iinc (v := zI ((i + 1 : Nat) : Int)) (lv' := [(2, zN (i + 1)), (3, zN (ca + stF F ca sz i)), (0, .ref (ad 0)), (1, .ref (ad (16 + bm)))]) C.1 C.2.1 dX5_wrongInstructionLink_35 hl (k := 1) rfl (zI_add _ _) (by decide) rfl (fun ls hl => ?_)
          refine lv_goto (tgt := 2) C.1 C.2.1 dX5_wrongInstructionLink_38 (by decide) ?_
          exact ih_loop (i + 1) ls _ hS (by omega) (by rw [← he, show N - i = (N - (i + 1)) + 1 by omega, fst1_s (g := g16 F tb mt cl nf nm ca sz ml N) (if_pos h30)]) (lv_sub hl [0, 2, 3] rfl)
        · refine lv_iload_n C.1 C.2.1 dX5_wrongInstructionLink_33 rfl (lv_at hl 0 rfl) ?_
          exact hret _ _ _ _ (zI ((ca + stF F ca sz i : Nat) : Int)) hS ⟨congrArg (fun x : Int => some (zV x)) (by rw [← he, show N - i = (N - (i + 1)) + 1 by omega, fst1_e (g := g16 F tb mt cl nf nm ca sz ml N) (if_neg (by rw [h30]; decide))]; rfl), rfl⟩ rfl dX5_wrongInstructionLink_34
  exact loop (N + 1) 0 ls _ hS (by omega) rfl hl
