/-! the component: rules 11 and 12 -/
theorem sameK_c (F tb : Nat → Nat) (a b : Nat) : sameK F tb a b = sameK F tb b a := by
  unfold sameK sameN
  rw [decide_eq_decide]
  constructor
  · intro h; exact ⟨h.1.symm, fun i hi => (h.2 i (by rw [h.1]; exact hi)).symm⟩
  · intro h; exact ⟨h.1.symm, fun i hi => (h.2 i (by rw [h.1]; exact hi)).symm⟩
def r11 (F tb f : Nat → Nat) (i : Nat) : Option Nat := fst1 (fun j => if sameK F tb (U2 F (f j + 2)) (U2 F (f i + 2)) = true then some (f i + 2) else none) i 0
theorem fst1_congr {g g' : Nat → Option Nat} : ∀ c i, (∀ j, i ≤ j → j < i + c → g j = g' j) → fst1 g c i = fst1 g' c i := by
  intro c
  induction c with
  | zero => intro i _; rfl
  | succ c ih =>
    intro i h
    have e := h i (Nat.le_refl _) (by omega)
    have r := ih (i + 1) (fun j a b => h j (by omega) (by omega))
    unfold fst1
    rw [e, r]
theorem x11_r {F tb mt : Nat → Nat} {nf nm : Nat} : x11 F tb mt nf (nf + nm) = (fst1 (r11 F tb mt) nf 0).or (fst1 (r11 F tb (fun j => mt (nf + j))) nm 0) := by
  have ea : fst1 (g11i F tb mt nf) nf 0 = fst1 (r11 F tb mt) nf 0 := fst1_congr _ _ (fun i _ hi => by
    unfold g11i from11
    rw [if_pos (by omega)]
    rfl)
  have eb : fst1 (g11i F tb mt nf) nm nf = fst1 (r11 F tb (fun j => mt (nf + j))) nm 0 := by
    rw [show fst1 (g11i F tb mt nf) nm nf = fst1 (fun j => g11i F tb mt nf (nf + j)) nm 0 from fst1_sh (k := nf) nm 0]
    refine fst1_congr _ _ (fun i _ hi => ?_)
    show g11i F tb mt nf (nf + i) = _
    unfold g11i from11
    rw [if_neg (by omega), show nf + i - nf = i by omega, show fst1 (g11 F tb mt (nf + i)) i nf = fst1 (fun j => g11 F tb mt (nf + i) (nf + j)) i 0 from fst1_sh (k := nf) i 0]
    rfl
  unfold x11
  rw [fst1_add, Nat.zero_add, ea, eb]
theorem r11_b {F tb f : Nat → Nat} {n cnt q : Nat} (hf : ∀ j, j < cnt → f j + 8 ≤ n) (h : fst1 (r11 F tb f) cnt 0 = some q) : q ≤ n := by
  obtain ⟨i, -, b, e⟩ := fst1_q _ _ h
  obtain ⟨j, -, b2, e2⟩ := fst1_q _ _ e
  have := hf i (by omega)
  split at e2
  · cases e2; omega
  · cases e2
theorem x12_r {F tb mt : Nat → Nat} {nf nm : Nat} : x12 F tb mt nf (nf + nm) = fst1 (fun j => g12 F tb mt (nf + j)) nm 0 := by
  unfold x12
  rw [Nat.add_sub_cancel_left]
  exact fst1_sh (k := nf) nm 0

set_option maxHeartbeats 4000000 in
set_option maxRecDepth 20000 in
theorem c_rmN11 (l : Launch) (Z : zT) {H : Heap} {ad : Nat → Nat} {τ : mS} {X : List (Nat × va_E)} (hM : isC Z H ad τ X) {F : Nat → Nat} {n : Nat} (hB : cSrc τ F n) {tb mt : Nat → Nat} {cl nf nm fa last : Nat} (hL : cLay τ F tb cl nf nm mt fa last) (hp : pLay F n tb cl nf nm mt fa last) {cnt : Nat} {f : Nat → Nat} (hr : ∀ j, j < cnt → τ.2.1 11 j = zI (f j : Int)) (hc24 : cnt ≤ 24) (hf : ∀ j, j < cnt → f j + 8 ≤ n) (hnm2 : ∀ j, j < cnt → U2 F (f j + 2) < U2 F 8 ∧ tg F tb (U2 F (f j + 2)) = 1) : zP l Z yX6_repeatedMemberName cX6_repeatedMemberName 5 (some .int) (rmk 3) [.ref (ad 0), .ref (ad 11), zN cnt] H (zV (oI (fst1 (r11 F tb f) cnt 0))) := by
  have hn := hB.2.2.2
  have hP := hL.1
  obtain ⟨p1, p2, p3, p4, p5, p6, p7, p8, p9, p10, p11, p12⟩ := id hp
  obtain ⟨q1, q2, q3, q4, q5, q6, q7, q8, q9⟩ := id hL
  refine zM.introI (own := RX6) ⟨by decide, rfl⟩ (Nat.le_of_ble_eq_true rfl) ?_
  intro p e s m args below meth c Q ls hH C hl hret
  have hS : va_S (fun _ => False) s.heap H [] := by rw [hH]; exact va_S.rf
  have hl : lv_has ls 5 [(0, .ref (ad 0)), (1, .ref (ad 11)), (2, zN cnt)] := hl
  refine lv_iconst (v := zI 0) C.1 C.2.1 dX6_repeatedMemberName_0 (by decide) ?_
  refine lv_istore_n (lv' := [(3, zN 0), (0, .ref (ad 0)), (1, .ref (ad 11)), (2, zN cnt)]) C.1 C.2.1 dX6_repeatedMemberName_1 rfl hl (by decide) rfl (fun ls hl => ?_)
  have loop : ∀ (fu : Nat) (i : Nat) (ls : Array Slot) (locs : List Loc), va_S (fun _ => False) s.heap H locs → (i ≤ cnt ∧ cnt < i + fu) → (fst1 (r11 F tb f) (cnt - i) i = fst1 (r11 F tb f) cnt 0) → lv_has ls 5 [(3, zN i), (0, .ref (ad 0)), (1, .ref (ad 11)), (2, zN cnt)] → W p l e (rmk 3) s m args below meth c H locs 0 0 Q (F0 m 2 ls []) := by
    intro fu
    induction fu with
    | zero =>
      intro i ls locs hS hi he hl
      (exact absurd hi.2 (by omega))
    | succ fu ih_loop =>
      intro i ls locs hS hi he hl
      refine lv_iload_n C.1 C.2.1 dX6_repeatedMemberName_2 rfl (lv_at hl 0 rfl) ?_
      refine lv_iload_n C.1 C.2.1 dX6_repeatedMemberName_3 rfl (lv_at hl 3 rfl) ?_
      refine y_icmp_ge (tgt := 65) C (a := ((i : Nat) : Int)) (b := ((cnt : Nat) : Int)) dX6_repeatedMemberName_4 (by decide) (by omega) (fun h4 => ?_) (fun h4 => ?_)
      · refine lv_iconst (v := zI (-1)) C.1 C.2.1 dX6_repeatedMemberName_65 (by decide) ?_
        exact hret _ _ _ _ (zI (-1)) hS ⟨congrArg (fun x : Int => some (zV x)) (by rw [← he, show cnt - i = 0 by omega]; rfl), rfl⟩ rfl dX6_repeatedMemberName_66
      · have hf1 := hf i (by omega)
        refine lv_iconst (v := zI 0) C.1 C.2.1 dX6_repeatedMemberName_7 (by decide) ?_
        refine lv_istore (lv' := [(4, zN 0), (3, zN i), (0, .ref (ad 0)), (1, .ref (ad 11)), (2, zN cnt)]) C.1 C.2.1 dX6_repeatedMemberName_8 hl (by decide) rfl (fun ls hl => ?_)
        have loop2 : ∀ (fu2 : Nat) (j : Nat) (ls : Array Slot) (locs : List Loc), va_S (fun _ => False) s.heap H locs → (j ≤ i ∧ i < j + fu2) → (fst1 (fun j => if sameK F tb (U2 F (f j + 2)) (U2 F (f i + 2)) = true then some (f i + 2) else none) (i - j) j = r11 F tb f i) → lv_has ls 5 [(4, zN j), (3, zN i), (0, .ref (ad 0)), (1, .ref (ad 11)), (2, zN cnt)] → W p l e (rmk 3) s m args below meth c H locs 0 0 Q (F0 m 10 ls []) := by
          intro fu2
          induction fu2 with
          | zero =>
            intro j ls locs hS hj he2 hl
            (exact absurd hj.2 (by omega))
          | succ fu2 ih_loop2 =>
            intro j ls locs hS hj he2 hl
            refine lv_iload C.1 C.2.1 dX6_repeatedMemberName_10 (lv_at hl 0 rfl) ?_
            refine lv_iload_n C.1 C.2.1 dX6_repeatedMemberName_12 rfl (lv_at hl 1 rfl) ?_
            refine y_icmp_ge (tgt := 59) C (a := ((j : Nat) : Int)) (b := ((i : Nat) : Int)) dX6_repeatedMemberName_13 (by decide) (by omega) (fun h13 => ?_) (fun h13 => ?_)
            · have hr0 : r11 F tb f i = none := by rw [← he2, show i - j = 0 by omega]; rfl
              refine lv_iinc (v := zI ((i + 1 : Nat) : Int)) (lv' := [(3, zN (i + 1)), (4, zN j), (0, .ref (ad 0)), (1, .ref (ad 11)), (2, zN cnt)]) C.1 C.2.1 dX6_repeatedMemberName_59 hl (k := 1) rfl (zI_add _ _) (by decide) rfl (fun ls hl => ?_)
              refine lv_goto (tgt := 2) C.1 C.2.1 dX6_repeatedMemberName_62 (by decide) ?_
              exact ih_loop (i + 1) ls _ hS (by omega) (by rw [← he, show cnt - i = (cnt - (i + 1)) + 1 by omega, fst1_s (hr0)]) (lv_sub hl [0, 2, 3, 4] rfl)
            · have hf2 := hf j (by omega)
              refine lv_aload_n C.1 C.2.1 dX6_repeatedMemberName_16 rfl (lv_at hl 2 rfl) ?_
              refine z_get C (v := .ref (ad 3)) hM.img rfl bi_wsX20 1 (by decide) zw_14_20 rfl rfl dX6_repeatedMemberName_17 ?_
              refine lv_aload_n C.1 C.2.1 dX6_repeatedMemberName_20 rfl (lv_at hl 2 rfl) ?_
              refine lv_aload_n C.1 C.2.1 dX6_repeatedMemberName_21 rfl (lv_at hl 3 rfl) ?_
              refine lv_iload_n C.1 C.2.1 dX6_repeatedMemberName_22 rfl (lv_at hl 1 rfl) ?_
              refine z_readSN C (As := [.ref (ad 11), zN i]) (rest := [.ref (ad 0), .ref (ad 3)]) (c_at l Z (hM.row 11 (by decide)) (by decide) i rfl (by show _ < 24; omega)) ⟨⟨zw_11_13, zw_1_2⟩, zd_X11_at⟩ (by decide) zw_11_12 ⟨Nat.le_of_ble_eq_true rfl, Nat.le_of_ble_eq_true rfl⟩ ⟨rfl, rfl⟩ rfl hl.1 rfl (Nat.le_of_ble_eq_true rfl) dX6_repeatedMemberName_23 ⟨Nat.zero_le _, Nat.zero_le _⟩ hS (fun locs hS => ?_)
              refine z_re (y := zI ((f i : Nat) : Int)) (hr i (by omega)) ?_
              refine z_readV C (As := [zN (f i)]) (rest := [.ref (ad 3)]) (c_X2_nameOf l Z hM hB (f i) rfl (by omega)) hM.img rfl ⟨⟨zw_15_7, zw_1_18, zw_15_4⟩, zd_X2_nameOf⟩ zw_15_5 zw_15_6 ⟨Nat.le_of_ble_eq_true rfl, Nat.le_of_ble_eq_true rfl⟩ ⟨rfl, rfl⟩ rfl hl.1 rfl (Nat.le_of_ble_eq_true rfl) dX6_repeatedMemberName_26 ⟨Nat.zero_le _, Nat.zero_le _⟩ hS (fun locs hS => ?_)
              have hnt26 := U2_lt hB.1 ((f i) + 2)
              refine lv_aload_n C.1 C.2.1 dX6_repeatedMemberName_29 rfl (lv_at hl 2 rfl) ?_
              refine lv_aload_n C.1 C.2.1 dX6_repeatedMemberName_30 rfl (lv_at hl 3 rfl) ?_
              refine lv_iload C.1 C.2.1 dX6_repeatedMemberName_31 (lv_at hl 0 rfl) ?_
              refine z_readSN C (As := [.ref (ad 11), zN j]) (rest := [.ref (ad 0), zN (U2 F ((f i) + 2)), .ref (ad 3)]) (c_at l Z (hM.row 11 (by decide)) (by decide) j rfl (by show _ < 24; omega)) ⟨⟨zw_11_13, zw_1_2⟩, zd_X11_at⟩ (by decide) zw_11_12 ⟨Nat.le_of_ble_eq_true rfl, Nat.le_of_ble_eq_true rfl⟩ ⟨rfl, rfl⟩ rfl hl.1 rfl (Nat.le_of_ble_eq_true rfl) dX6_repeatedMemberName_33 ⟨Nat.zero_le _, Nat.zero_le _⟩ hS (fun locs hS => ?_)
              refine z_re (y := zI ((f j : Nat) : Int)) (hr j (by omega)) ?_
              refine z_readV C (As := [zN (f j)]) (rest := [zN (U2 F ((f i) + 2)), .ref (ad 3)]) (c_X2_nameOf l Z hM hB (f j) rfl (by omega)) hM.img rfl ⟨⟨zw_15_7, zw_1_18, zw_15_4⟩, zd_X2_nameOf⟩ zw_15_5 zw_15_6 ⟨Nat.le_of_ble_eq_true rfl, Nat.le_of_ble_eq_true rfl⟩ ⟨rfl, rfl⟩ rfl hl.1 rfl (Nat.le_of_ble_eq_true rfl) dX6_repeatedMemberName_36 ⟨Nat.zero_le _, Nat.zero_le _⟩ hS (fun locs hS => ?_)
              have hnt36 := U2_lt hB.1 ((f j) + 2)
              refine z_readV C (As := [zN (U2 F ((f i) + 2)), zN (U2 F ((f j) + 2))]) (rest := []) (c_X7_same l Z hM hB hP (a := U2 F ((f i) + 2)) (b := U2 F ((f j) + 2)) (hnm2 i (by omega)).1 (hnm2 j (by omega)).1 (p4.nm (hnm2 i (by omega)).2).1 (p4.nm (hnm2 j (by omega)).2).1) hM.pol rfl ⟨⟨zw_16_11, zw_2_19, zw_16_8⟩, zd_X7_same⟩ zw_16_9 zw_16_10 ⟨Nat.le_of_ble_eq_true rfl, Nat.le_of_ble_eq_true rfl⟩ ⟨rfl, rfl⟩ rfl hl.1 rfl (Nat.le_of_ble_eq_true rfl) dX6_repeatedMemberName_39 ⟨Nat.zero_le _, Nat.zero_le _⟩ hS (fun locs hS => ?_)
              refine y_ifb_eq (tgt := 53) C dX6_repeatedMemberName_42 (by decide) (fun h42 => ?_) (fun h42 => ?_)
              · refine lv_iinc (v := zI ((j + 1 : Nat) : Int)) (lv' := [(4, zN (j + 1)), (3, zN i), (0, .ref (ad 0)), (1, .ref (ad 11)), (2, zN cnt)]) C.1 C.2.1 dX6_repeatedMemberName_53 hl (k := 0) rfl (zI_add _ _) (by decide) rfl (fun ls hl => ?_)
                refine lv_goto (tgt := 10) C.1 C.2.1 dX6_repeatedMemberName_56 (by decide) ?_
                exact ih_loop2 (j + 1) ls _ hS (by omega) (by rw [← he2, show i - j = (i - (j + 1)) + 1 by omega, fst1_s (g := fun j => if sameK F tb (U2 F (f j + 2)) (U2 F (f i + 2)) = true then some (f i + 2) else none) (if_neg (by rw [sameK_c, h42]; decide))]) hl
              · refine lv_aload_n C.1 C.2.1 dX6_repeatedMemberName_45 rfl (lv_at hl 3 rfl) ?_
                refine lv_iload_n C.1 C.2.1 dX6_repeatedMemberName_46 rfl (lv_at hl 1 rfl) ?_
                refine z_readSN C (As := [.ref (ad 11), zN i]) (rest := []) (c_at l Z (hM.row 11 (by decide)) (by decide) i rfl (by show _ < 24; omega)) ⟨⟨zw_11_13, zw_1_2⟩, zd_X11_at⟩ (by decide) zw_11_12 ⟨Nat.le_of_ble_eq_true rfl, Nat.le_of_ble_eq_true rfl⟩ ⟨rfl, rfl⟩ rfl hl.1 rfl (Nat.le_of_ble_eq_true rfl) dX6_repeatedMemberName_47 ⟨Nat.zero_le _, Nat.zero_le _⟩ hS (fun locs hS => ?_)
                refine z_re (y := zI ((f i : Nat) : Int)) (hr i (by omega)) ?_
                refine lv_iconst (v := zI 2) C.1 C.2.1 dX6_repeatedMemberName_50 (by decide) ?_
                refine y_iaddN C (a := f i) (b := 2) dX6_repeatedMemberName_51 ?_
                exact hret _ _ _ _ (zI (((f i) + 2 : Nat) : Int)) hS ⟨congrArg (fun x : Int => some (zV x)) (by rw [← he, show cnt - i = (cnt - (i + 1)) + 1 by omega, fst1_e (show r11 F tb f i = some (f i + 2) by rw [← he2, show i - j = (i - (j + 1)) + 1 by omega, fst1_e (g := fun j => if sameK F tb (U2 F (f j + 2)) (U2 F (f i + 2)) = true then some (f i + 2) else none) (if_pos (by rw [sameK_c]; exact h42))])]; rfl), rfl⟩ rfl dX6_repeatedMemberName_52
        exact loop2 (i + 1) 0 ls _ hS (by omega) rfl hl
  exact loop (cnt + 1) 0 ls _ hS (by omega) rfl hl

set_option maxHeartbeats 4000000 in
set_option maxRecDepth 20000 in
theorem c_rmN12 (l : Launch) (Z : zT) {H : Heap} {ad : Nat → Nat} {τ : mS} {X : List (Nat × va_E)} (hM : isC Z H ad τ X) {F : Nat → Nat} {n : Nat} (hB : cSrc τ F n) {tb mt : Nat → Nat} {cl nf nm fa last : Nat} (hL : cLay τ F tb cl nf nm mt fa last) (hp : pLay F n tb cl nf nm mt fa last) {cnt : Nat} {f : Nat → Nat} (hr : ∀ j, j < cnt → τ.2.1 12 j = zI (f j : Int)) (hc24 : cnt ≤ 24) (hf : ∀ j, j < cnt → f j + 8 ≤ n) (hnm2 : ∀ j, j < cnt → U2 F (f j + 2) < U2 F 8 ∧ tg F tb (U2 F (f j + 2)) = 1) : zP l Z yX6_repeatedMemberName cX6_repeatedMemberName 5 (some .int) (rmk 3) [.ref (ad 0), .ref (ad 12), zN cnt] H (zV (oI (fst1 (r11 F tb f) cnt 0))) := by
  have hn := hB.2.2.2
  have hP := hL.1
  obtain ⟨p1, p2, p3, p4, p5, p6, p7, p8, p9, p10, p11, p12⟩ := id hp
  obtain ⟨q1, q2, q3, q4, q5, q6, q7, q8, q9⟩ := id hL
  refine zM.introI (own := RX6) ⟨by decide, rfl⟩ (Nat.le_of_ble_eq_true rfl) ?_
  intro p e s m args below meth c Q ls hH C hl hret
  have hS : va_S (fun _ => False) s.heap H [] := by rw [hH]; exact va_S.rf
  have hl : lv_has ls 5 [(0, .ref (ad 0)), (1, .ref (ad 12)), (2, zN cnt)] := hl
  refine lv_iconst (v := zI 0) C.1 C.2.1 dX6_repeatedMemberName_0 (by decide) ?_
  refine lv_istore_n (lv' := [(3, zN 0), (0, .ref (ad 0)), (1, .ref (ad 12)), (2, zN cnt)]) C.1 C.2.1 dX6_repeatedMemberName_1 rfl hl (by decide) rfl (fun ls hl => ?_)
  have loop : ∀ (fu : Nat) (i : Nat) (ls : Array Slot) (locs : List Loc), va_S (fun _ => False) s.heap H locs → (i ≤ cnt ∧ cnt < i + fu) → (fst1 (r11 F tb f) (cnt - i) i = fst1 (r11 F tb f) cnt 0) → lv_has ls 5 [(3, zN i), (0, .ref (ad 0)), (1, .ref (ad 12)), (2, zN cnt)] → W p l e (rmk 3) s m args below meth c H locs 0 0 Q (F0 m 2 ls []) := by
    intro fu
    induction fu with
    | zero =>
      intro i ls locs hS hi he hl
      (exact absurd hi.2 (by omega))
    | succ fu ih_loop =>
      intro i ls locs hS hi he hl
      refine lv_iload_n C.1 C.2.1 dX6_repeatedMemberName_2 rfl (lv_at hl 0 rfl) ?_
      refine lv_iload_n C.1 C.2.1 dX6_repeatedMemberName_3 rfl (lv_at hl 3 rfl) ?_
      refine y_icmp_ge (tgt := 65) C (a := ((i : Nat) : Int)) (b := ((cnt : Nat) : Int)) dX6_repeatedMemberName_4 (by decide) (by omega) (fun h4 => ?_) (fun h4 => ?_)
      · refine lv_iconst (v := zI (-1)) C.1 C.2.1 dX6_repeatedMemberName_65 (by decide) ?_
        exact hret _ _ _ _ (zI (-1)) hS ⟨congrArg (fun x : Int => some (zV x)) (by rw [← he, show cnt - i = 0 by omega]; rfl), rfl⟩ rfl dX6_repeatedMemberName_66
      · have hf1 := hf i (by omega)
        refine lv_iconst (v := zI 0) C.1 C.2.1 dX6_repeatedMemberName_7 (by decide) ?_
        refine lv_istore (lv' := [(4, zN 0), (3, zN i), (0, .ref (ad 0)), (1, .ref (ad 12)), (2, zN cnt)]) C.1 C.2.1 dX6_repeatedMemberName_8 hl (by decide) rfl (fun ls hl => ?_)
        have loop2 : ∀ (fu2 : Nat) (j : Nat) (ls : Array Slot) (locs : List Loc), va_S (fun _ => False) s.heap H locs → (j ≤ i ∧ i < j + fu2) → (fst1 (fun j => if sameK F tb (U2 F (f j + 2)) (U2 F (f i + 2)) = true then some (f i + 2) else none) (i - j) j = r11 F tb f i) → lv_has ls 5 [(4, zN j), (3, zN i), (0, .ref (ad 0)), (1, .ref (ad 12)), (2, zN cnt)] → W p l e (rmk 3) s m args below meth c H locs 0 0 Q (F0 m 10 ls []) := by
          intro fu2
          induction fu2 with
          | zero =>
            intro j ls locs hS hj he2 hl
            (exact absurd hj.2 (by omega))
          | succ fu2 ih_loop2 =>
            intro j ls locs hS hj he2 hl
            refine lv_iload C.1 C.2.1 dX6_repeatedMemberName_10 (lv_at hl 0 rfl) ?_
            refine lv_iload_n C.1 C.2.1 dX6_repeatedMemberName_12 rfl (lv_at hl 1 rfl) ?_
            refine y_icmp_ge (tgt := 59) C (a := ((j : Nat) : Int)) (b := ((i : Nat) : Int)) dX6_repeatedMemberName_13 (by decide) (by omega) (fun h13 => ?_) (fun h13 => ?_)
            · have hr0 : r11 F tb f i = none := by rw [← he2, show i - j = 0 by omega]; rfl
              refine lv_iinc (v := zI ((i + 1 : Nat) : Int)) (lv' := [(3, zN (i + 1)), (4, zN j), (0, .ref (ad 0)), (1, .ref (ad 12)), (2, zN cnt)]) C.1 C.2.1 dX6_repeatedMemberName_59 hl (k := 1) rfl (zI_add _ _) (by decide) rfl (fun ls hl => ?_)
              refine lv_goto (tgt := 2) C.1 C.2.1 dX6_repeatedMemberName_62 (by decide) ?_
              exact ih_loop (i + 1) ls _ hS (by omega) (by rw [← he, show cnt - i = (cnt - (i + 1)) + 1 by omega, fst1_s (hr0)]) (lv_sub hl [0, 2, 3, 4] rfl)
            · have hf2 := hf j (by omega)
              refine lv_aload_n C.1 C.2.1 dX6_repeatedMemberName_16 rfl (lv_at hl 2 rfl) ?_
              refine z_get C (v := .ref (ad 3)) hM.img rfl bi_wsX20 1 (by decide) zw_14_20 rfl rfl dX6_repeatedMemberName_17 ?_
              refine lv_aload_n C.1 C.2.1 dX6_repeatedMemberName_20 rfl (lv_at hl 2 rfl) ?_
              refine lv_aload_n C.1 C.2.1 dX6_repeatedMemberName_21 rfl (lv_at hl 3 rfl) ?_
              refine lv_iload_n C.1 C.2.1 dX6_repeatedMemberName_22 rfl (lv_at hl 1 rfl) ?_
              refine z_readSN C (As := [.ref (ad 12), zN i]) (rest := [.ref (ad 0), .ref (ad 3)]) (c_at l Z (hM.row 12 (by decide)) (by decide) i rfl (by show _ < 24; omega)) ⟨⟨zw_11_13, zw_1_2⟩, zd_X11_at⟩ (by decide) zw_11_12 ⟨Nat.le_of_ble_eq_true rfl, Nat.le_of_ble_eq_true rfl⟩ ⟨rfl, rfl⟩ rfl hl.1 rfl (Nat.le_of_ble_eq_true rfl) dX6_repeatedMemberName_23 ⟨Nat.zero_le _, Nat.zero_le _⟩ hS (fun locs hS => ?_)
              refine z_re (y := zI ((f i : Nat) : Int)) (hr i (by omega)) ?_
              refine z_readV C (As := [zN (f i)]) (rest := [.ref (ad 3)]) (c_X2_nameOf l Z hM hB (f i) rfl (by omega)) hM.img rfl ⟨⟨zw_15_7, zw_1_18, zw_15_4⟩, zd_X2_nameOf⟩ zw_15_5 zw_15_6 ⟨Nat.le_of_ble_eq_true rfl, Nat.le_of_ble_eq_true rfl⟩ ⟨rfl, rfl⟩ rfl hl.1 rfl (Nat.le_of_ble_eq_true rfl) dX6_repeatedMemberName_26 ⟨Nat.zero_le _, Nat.zero_le _⟩ hS (fun locs hS => ?_)
              have hnt26 := U2_lt hB.1 ((f i) + 2)
              refine lv_aload_n C.1 C.2.1 dX6_repeatedMemberName_29 rfl (lv_at hl 2 rfl) ?_
              refine lv_aload_n C.1 C.2.1 dX6_repeatedMemberName_30 rfl (lv_at hl 3 rfl) ?_
              refine lv_iload C.1 C.2.1 dX6_repeatedMemberName_31 (lv_at hl 0 rfl) ?_
              refine z_readSN C (As := [.ref (ad 12), zN j]) (rest := [.ref (ad 0), zN (U2 F ((f i) + 2)), .ref (ad 3)]) (c_at l Z (hM.row 12 (by decide)) (by decide) j rfl (by show _ < 24; omega)) ⟨⟨zw_11_13, zw_1_2⟩, zd_X11_at⟩ (by decide) zw_11_12 ⟨Nat.le_of_ble_eq_true rfl, Nat.le_of_ble_eq_true rfl⟩ ⟨rfl, rfl⟩ rfl hl.1 rfl (Nat.le_of_ble_eq_true rfl) dX6_repeatedMemberName_33 ⟨Nat.zero_le _, Nat.zero_le _⟩ hS (fun locs hS => ?_)
              refine z_re (y := zI ((f j : Nat) : Int)) (hr j (by omega)) ?_
              refine z_readV C (As := [zN (f j)]) (rest := [zN (U2 F ((f i) + 2)), .ref (ad 3)]) (c_X2_nameOf l Z hM hB (f j) rfl (by omega)) hM.img rfl ⟨⟨zw_15_7, zw_1_18, zw_15_4⟩, zd_X2_nameOf⟩ zw_15_5 zw_15_6 ⟨Nat.le_of_ble_eq_true rfl, Nat.le_of_ble_eq_true rfl⟩ ⟨rfl, rfl⟩ rfl hl.1 rfl (Nat.le_of_ble_eq_true rfl) dX6_repeatedMemberName_36 ⟨Nat.zero_le _, Nat.zero_le _⟩ hS (fun locs hS => ?_)
              have hnt36 := U2_lt hB.1 ((f j) + 2)
              refine z_readV C (As := [zN (U2 F ((f i) + 2)), zN (U2 F ((f j) + 2))]) (rest := []) (c_X7_same l Z hM hB hP (a := U2 F ((f i) + 2)) (b := U2 F ((f j) + 2)) (hnm2 i (by omega)).1 (hnm2 j (by omega)).1 (p4.nm (hnm2 i (by omega)).2).1 (p4.nm (hnm2 j (by omega)).2).1) hM.pol rfl ⟨⟨zw_16_11, zw_2_19, zw_16_8⟩, zd_X7_same⟩ zw_16_9 zw_16_10 ⟨Nat.le_of_ble_eq_true rfl, Nat.le_of_ble_eq_true rfl⟩ ⟨rfl, rfl⟩ rfl hl.1 rfl (Nat.le_of_ble_eq_true rfl) dX6_repeatedMemberName_39 ⟨Nat.zero_le _, Nat.zero_le _⟩ hS (fun locs hS => ?_)
              refine y_ifb_eq (tgt := 53) C dX6_repeatedMemberName_42 (by decide) (fun h42 => ?_) (fun h42 => ?_)
              · refine lv_iinc (v := zI ((j + 1 : Nat) : Int)) (lv' := [(4, zN (j + 1)), (3, zN i), (0, .ref (ad 0)), (1, .ref (ad 12)), (2, zN cnt)]) C.1 C.2.1 dX6_repeatedMemberName_53 hl (k := 0) rfl (zI_add _ _) (by decide) rfl (fun ls hl => ?_)
                refine lv_goto (tgt := 10) C.1 C.2.1 dX6_repeatedMemberName_56 (by decide) ?_
                exact ih_loop2 (j + 1) ls _ hS (by omega) (by rw [← he2, show i - j = (i - (j + 1)) + 1 by omega, fst1_s (g := fun j => if sameK F tb (U2 F (f j + 2)) (U2 F (f i + 2)) = true then some (f i + 2) else none) (if_neg (by rw [sameK_c, h42]; decide))]) hl
              · refine lv_aload_n C.1 C.2.1 dX6_repeatedMemberName_45 rfl (lv_at hl 3 rfl) ?_
                refine lv_iload_n C.1 C.2.1 dX6_repeatedMemberName_46 rfl (lv_at hl 1 rfl) ?_
                refine z_readSN C (As := [.ref (ad 12), zN i]) (rest := []) (c_at l Z (hM.row 12 (by decide)) (by decide) i rfl (by show _ < 24; omega)) ⟨⟨zw_11_13, zw_1_2⟩, zd_X11_at⟩ (by decide) zw_11_12 ⟨Nat.le_of_ble_eq_true rfl, Nat.le_of_ble_eq_true rfl⟩ ⟨rfl, rfl⟩ rfl hl.1 rfl (Nat.le_of_ble_eq_true rfl) dX6_repeatedMemberName_47 ⟨Nat.zero_le _, Nat.zero_le _⟩ hS (fun locs hS => ?_)
                refine z_re (y := zI ((f i : Nat) : Int)) (hr i (by omega)) ?_
                refine lv_iconst (v := zI 2) C.1 C.2.1 dX6_repeatedMemberName_50 (by decide) ?_
                refine y_iaddN C (a := f i) (b := 2) dX6_repeatedMemberName_51 ?_
                exact hret _ _ _ _ (zI (((f i) + 2 : Nat) : Int)) hS ⟨congrArg (fun x : Int => some (zV x)) (by rw [← he, show cnt - i = (cnt - (i + 1)) + 1 by omega, fst1_e (show r11 F tb f i = some (f i + 2) by rw [← he2, show i - j = (i - (j + 1)) + 1 by omega, fst1_e (g := fun j => if sameK F tb (U2 F (f j + 2)) (U2 F (f i + 2)) = true then some (f i + 2) else none) (if_pos (by rw [sameK_c]; exact h42))])]; rfl), rfl⟩ rfl dX6_repeatedMemberName_52
        exact loop2 (i + 1) 0 ls _ hS (by omega) rfl hl
  exact loop (cnt + 1) 0 ls _ hS (by omega) rfl hl

set_option maxHeartbeats 4000000 in
set_option maxRecDepth 20000 in
theorem c_X6_repeatedName (l : Launch) (Z : zT) {H : Heap} {ad : Nat → Nat} {τ : mS} {X : List (Nat × va_E)} (hM : isC Z H ad τ X) {F : Nat → Nat} {n : Nat} (hB : cSrc τ F n) {tb mt : Nat → Nat} {cl nf nm fa last : Nat} (hL : cLay τ F tb cl nf nm mt fa last) (hp : pLay F n tb cl nf nm mt fa last) (hx6 : x6 F tb (U2 F 8) = none) (hx9 : x9 F tb (U2 F 8) mt (nf + nm) fa = none) : zP l Z yX6_repeatedName cX6_repeatedName 2 (some .int) (rmk 4) [.ref (ad 0)] H (zV (oI (x11 F tb mt nf (nf + nm)))) := by
  have hn := hB.2.2.2
  have hP := hL.1
  obtain ⟨p1, p2, p3, p4, p5, p6, p7, p8, p9, p10, p11, p12⟩ := id hp
  obtain ⟨q1, q2, q3, q4, q5, q6, q7, q8, q9⟩ := id hL
  refine zM.introI (own := RX6) ⟨by decide, rfl⟩ (Nat.le_of_ble_eq_true rfl) ?_
  intro p e s m args below meth c Q ls hH C hl hret
  have hS : va_S (fun _ => False) s.heap H [] := by rw [hH]; exact va_S.rf
  have hl : lv_has ls 2 [(0, .ref (ad 0))] := hl
  refine lv_aload_n C.1 C.2.1 dX6_repeatedName_0 rfl (lv_at hl 0 rfl) ?_
  refine lv_aload_n C.1 C.2.1 dX6_repeatedName_1 rfl (lv_at hl 0 rfl) ?_
  refine z_get C (v := .ref (ad 11)) hM.img rfl bi_wsX20 2 (by decide) zw_14_9 rfl rfl dX6_repeatedName_2 ?_
  refine lv_aload_n C.1 C.2.1 dX6_repeatedName_5 rfl (lv_at hl 0 rfl) ?_
  refine z_get C (v := .int (τ.1 2)) hM.img rfl bi_wsX20 6 (by decide) zw_14_10 rfl rfl dX6_repeatedName_6 ?_
  refine z_re (y := zI ((nf : Nat) : Int)) hL.2.2.1 ?_
  refine z_readS C (As := [.ref (ad 0), .ref (ad 11), zN nf]) (rest := []) (c_rmN11 l Z hM hB hL hp (f := mt) q8 (by omega) (fun j hj => (hp.m1 hj).1) (fun j hj => by have h := (x9_nm hx9 (j := j) (by omega)).1; exact ⟨h.2.1, h.2.2⟩)) ⟨⟨zw_16_7, zw_13_10, zw_16_5⟩, zd_X6_repeatedMemberName⟩ zw_16_6 ⟨Nat.le_of_ble_eq_true rfl, Nat.le_of_ble_eq_true rfl⟩ ⟨rfl, rfl⟩ rfl hl.1 rfl (Nat.le_of_ble_eq_true rfl) dX6_repeatedName_9 ⟨Nat.zero_le _, Nat.zero_le _⟩ hS (fun locs hS => ?_)
  rcases oI_c (fst1 (r11 F tb mt) nf 0) with ho11 | ⟨q11, ho11⟩
  · refine z_re (y := zI (-1)) (by rw [ho11]; rfl) ?_
    refine lv_istore_n (lv' := [(1, zV (-1)), (0, .ref (ad 0))]) C.1 C.2.1 dX6_repeatedName_12 rfl hl (by decide) rfl (fun ls hl => ?_)
    refine lv_iload_n C.1 C.2.1 dX6_repeatedName_13 rfl (lv_at hl 0 rfl) ?_
    refine lv_iconst (v := zI (-1)) C.1 C.2.1 dX6_repeatedName_14 (by decide) ?_
    refine y_icmp_eq (tgt := 22) C (a := -1) (b := -1) dX6_repeatedName_15 (by decide) (by omega) (fun h15 => ?_) (fun h15 => ?_)
    · refine lv_aload_n C.1 C.2.1 dX6_repeatedName_22 rfl (lv_at hl 1 rfl) ?_
      refine lv_aload_n C.1 C.2.1 dX6_repeatedName_23 rfl (lv_at hl 1 rfl) ?_
      refine z_get C (v := .ref (ad 12)) hM.img rfl bi_wsX20 3 (by decide) zw_14_11 rfl rfl dX6_repeatedName_24 ?_
      refine lv_aload_n C.1 C.2.1 dX6_repeatedName_27 rfl (lv_at hl 1 rfl) ?_
      refine z_get C (v := .int (τ.1 3)) hM.img rfl bi_wsX20 7 (by decide) zw_14_12 rfl rfl dX6_repeatedName_28 ?_
      refine z_re (y := zI ((nm : Nat) : Int)) hL.2.2.2.1 ?_
      refine z_readS C (As := [.ref (ad 0), .ref (ad 12), zN nm]) (rest := []) (c_rmN12 l Z hM hB hL hp (f := (fun j => mt (nf + j))) q9 (by omega) (fun j hj => (hp.m2 hj).1) (fun j hj => by have h := (x9_nm hx9 (j := nf + j) (by omega)).1; exact ⟨h.2.1, h.2.2⟩)) ⟨⟨zw_16_7, zw_13_10, zw_16_5⟩, zd_X6_repeatedMemberName⟩ zw_16_6 ⟨Nat.le_of_ble_eq_true rfl, Nat.le_of_ble_eq_true rfl⟩ ⟨rfl, rfl⟩ rfl hl.1 rfl (Nat.le_of_ble_eq_true rfl) dX6_repeatedName_31 ⟨Nat.zero_le _, Nat.zero_le _⟩ hS (fun locs hS => ?_)
      rcases oI_c (fst1 (r11 F tb (fun j => mt (nf + j))) nm 0) with ho12 | ⟨q12, ho12⟩
      · refine z_re (y := zI (-1)) (by rw [ho12]; rfl) ?_
        exact hret _ _ _ _ (zI (-1)) hS ⟨congrArg (fun x : Int => some (zV x)) (by rw [x11_r, ho11, ho12]; rfl), rfl⟩ rfl dX6_repeatedName_34
      · refine z_re (y := zI ((q12 : Nat) : Int)) (by rw [ho12]; rfl) ?_
        have hob12 : q12 ≤ n := r11_b (fun j hj => (hp.m2 hj).1) ho12
        exact hret _ _ _ _ (zI ((q12 : Nat) : Int)) hS ⟨congrArg (fun x : Int => some (zV x)) (by rw [x11_r, ho11, ho12]; rfl), rfl⟩ rfl dX6_repeatedName_34
    · exact False.elim (by first | omega | exact h15 rfl)
  · refine z_re (y := zI ((q11 : Nat) : Int)) (by rw [ho11]; rfl) ?_
    have hob11 : q11 ≤ n := r11_b (fun j hj => (hp.m1 hj).1) ho11
    refine lv_istore_n (lv' := [(1, zN q11), (0, .ref (ad 0))]) C.1 C.2.1 dX6_repeatedName_12 rfl hl (by decide) rfl (fun ls hl => ?_)
    refine lv_iload_n C.1 C.2.1 dX6_repeatedName_13 rfl (lv_at hl 0 rfl) ?_
    refine lv_iconst (v := zI (-1)) C.1 C.2.1 dX6_repeatedName_14 (by decide) ?_
    refine y_icmp_eq (tgt := 22) C (a := ((q11 : Nat) : Int)) (b := -1) dX6_repeatedName_15 (by decide) (by omega) (fun h15 => ?_) (fun h15 => ?_)
    · exact False.elim (by first | omega | exact h15 rfl)
    · refine lv_iload_n C.1 C.2.1 dX6_repeatedName_18 rfl (lv_at hl 0 rfl) ?_
      refine lv_goto (tgt := 34) C.1 C.2.1 dX6_repeatedName_19 (by decide) ?_
      exact hret _ _ _ _ (zI ((q11 : Nat) : Int)) hS ⟨congrArg (fun x : Int => some (zV x)) (by rw [x11_r, ho11]; rfl), rfl⟩ rfl dX6_repeatedName_34

theorem cdL_1 {F tb : Nat → Nat} {a j : Nat} (h : isTxK F tb (U2 F (atp F a j)) 0 = true) : cdL F tb a (j + 1) = ((cdL F tb a j).1 + 1, atp F a j) := by conv => lhs; unfold cdL; rw [if_pos h]
theorem cdL_0 {F tb : Nat → Nat} {a j : Nat} (h : isTxK F tb (U2 F (atp F a j)) 0 = false) : cdL F tb a (j + 1) = cdL F tb a j := by conv => lhs; unfold cdL; rw [if_neg (by rw [h]; decide)]
theorem cdLle (F tb : Nat → Nat) (a : Nat) : ∀ j, (cdL F tb a j).1 ≤ j := by
  intro j
  induction j with
  | zero => exact Nat.le_refl _
  | succ j ih => unfold cdL; split; exact Nat.succ_le_succ ih; exact Nat.le_succ_of_le ih

set_option maxHeartbeats 4000000 in
set_option maxRecDepth 20000 in
theorem c_X6_findsOneCode (l : Launch) (Z : zT) {H : Heap} {ad : Nat → Nat} {τ : mS} {X : List (Nat × va_E)} (hM : isC Z H ad τ X) {F : Nat → Nat} {n : Nat} (hB : cSrc τ F n) {tb : Nat → Nat} (hP : cPl τ F tb (U2 F 8)) (p4 : pPl F n tb (U2 F 8)) {a bm : Nat} (hbm : bm < 24) (hA : pAt F n a) (hnmA : ∀ j, j < U2 F a → U2 F (atp F a j) < U2 F 8 ∧ tg F tb (U2 F (atp F a j)) = 1) : zM l Z yX6_findsOneCode cX6_findsOneCode 7 (some .boolean) (rmk 6) [.ref (ad 0), .ref (ad (16 + bm)), zN a] H (cA ad) 0 0 (fun v H' => ((cdA F tb a).1 = 1 → v = some (zV 1)) ∧ ((cdA F tb a).1 ≠ 1 → v = some (zV 0)) ∧ ∃ τ' : mS, isC Z H' ad τ' X ∧ chg [] [20] τ τ' ∧ ((cdA F tb a).1 = 1 → τ'.2.1 20 bm = zI ((cdA F tb a).2 : Int)) ∧ ∀ i, i ≠ bm → τ'.2.1 20 i = τ.2.1 20 i) := by
  have hn := hB.2.2.2
  have hA1 := hA.1
  have hu2 := U2_lt hB.1 a
  refine zM.introI (own := RX6) ⟨by decide, rfl⟩ (Nat.le_of_ble_eq_true rfl) ?_
  intro p e s m args below meth c Q ls hH C hl hret
  have hS : va_S (cA ad) s.heap H [] := by rw [hH]; exact va_S.rf
  have hl : lv_has ls 7 [(0, .ref (ad 0)), (1, .ref (ad (16 + bm))), (2, zN a)] := hl
  refine lv_iconst (v := zI 0) C.1 C.2.1 dX6_findsOneCode_0 (by decide) ?_
  refine lv_istore_n (lv' := [(3, zN 0), (0, .ref (ad 0)), (1, .ref (ad (16 + bm))), (2, zN a)]) C.1 C.2.1 dX6_findsOneCode_1 rfl hl (by decide) rfl (fun ls hl => ?_)
  refine lv_aload_n C.1 C.2.1 dX6_findsOneCode_2 rfl (lv_at hl 1 rfl) ?_
  refine z_get C (v := .ref (ad 1)) hM.img rfl bi_wsX20 0 (by decide) zw_14_7 rfl rfl dX6_findsOneCode_3 ?_
  refine lv_iload_n C.1 C.2.1 dX6_findsOneCode_6 rfl (lv_at hl 3 rfl) ?_
  refine z_readV C (As := [zN a]) (rest := []) (c_u2 l Z hM hB a rfl (by omega)) hM.byt rfl ⟨⟨zw_10_5, zw_2_15, zw_14_13⟩, zd_X1_u2⟩ zw_10_3 zw_10_4 ⟨Nat.le_of_ble_eq_true rfl, Nat.le_of_ble_eq_true rfl⟩ ⟨rfl, rfl⟩ rfl hl.1 rfl (Nat.le_of_ble_eq_true rfl) dX6_findsOneCode_7 ⟨Nat.zero_le _, Nat.zero_le _⟩ hS (fun locs hS => ?_)
  have := U2_lt hB.1 a
  refine lv_istore (lv' := [(4, zN (U2 F a)), (3, zN 0), (0, .ref (ad 0)), (1, .ref (ad (16 + bm))), (2, zN a)]) C.1 C.2.1 dX6_findsOneCode_10 hl (by decide) rfl (fun ls hl => ?_)
  refine lv_iload_n C.1 C.2.1 dX6_findsOneCode_12 rfl (lv_at hl 4 rfl) ?_
  refine lv_iconst (v := zI 2) C.1 C.2.1 dX6_findsOneCode_13 (by decide) ?_
  refine y_iaddN C (a := a) (b := 2) dX6_findsOneCode_14 ?_
  refine lv_istore (lv' := [(5, zN (a + 2)), (4, zN (U2 F a)), (3, zN 0), (0, .ref (ad 0)), (1, .ref (ad (16 + bm))), (2, zN a)]) C.1 C.2.1 dX6_findsOneCode_15 hl (by decide) rfl (fun ls hl => ?_)
  refine lv_iconst (v := zI 0) C.1 C.2.1 dX6_findsOneCode_17 (by decide) ?_
  refine lv_istore (lv' := [(6, zN 0), (5, zN (a + 2)), (4, zN (U2 F a)), (3, zN 0), (0, .ref (ad 0)), (1, .ref (ad (16 + bm))), (2, zN a)]) C.1 C.2.1 dX6_findsOneCode_18 hl (by decide) rfl (fun ls hl => ?_)
  have loop : ∀ (fu : Nat) (j : Nat) (τ1 : mS) (H : Heap) (ls : Array Slot) (locs : List Loc), va_S (cA ad) s.heap H locs → isC Z H ad τ1 X → (j ≤ U2 F a ∧ U2 F a < j + fu) → (chg [] [20] τ τ1) → (cSrc τ1 F n) → (cPl τ1 F tb (U2 F 8)) → (1 ≤ (cdL F tb a j).1 → τ1.2.1 20 bm = zI ((cdL F tb a j).2 : Int)) → (∀ i, i ≠ bm → τ1.2.1 20 i = τ.2.1 20 i) → lv_has ls 7 [(6, zN j), (3, zN ((cdL F tb a j).1)), (5, zN (atp F a j)), (4, zN (U2 F a)), (0, .ref (ad 0)), (1, .ref (ad (16 + bm))), (2, zN a)] → W p l e (rmk 6) s m args below meth c H locs 0 0 Q (F0 m 20 ls []) := by
    intro fu
    induction fu with
    | zero =>
      intro j τ1 H ls locs hS hM hj hc hB hP hfo hot hl
      (exact absurd hj.2 (by omega))
    | succ fu ih_loop =>
      intro j τ1 H ls locs hS hM hj hc hB hP hfo hot hl
      refine lv_iload C.1 C.2.1 dX6_findsOneCode_20 (lv_at hl 0 rfl) ?_
      refine lv_iload C.1 C.2.1 dX6_findsOneCode_22 (lv_at hl 3 rfl) ?_
      refine y_icmp_ge (tgt := 82) C (a := ((j : Nat) : Int)) (b := ((U2 F a : Nat) : Int)) dX6_findsOneCode_24 (by decide) (by omega) (fun h24 => ?_) (fun h24 => ?_)
      · have hje : j = U2 F a := by omega
        have hcl := cdLle F tb a j
        refine lv_iload_n C.1 C.2.1 dX6_findsOneCode_82 rfl (lv_at hl 1 rfl) ?_
        refine lv_iconst (v := zI 1) C.1 C.2.1 dX6_findsOneCode_83 (by decide) ?_
        refine y_icmp_ne (tgt := 91) C (a := (((cdL F tb a j).1 : Nat) : Int)) (b := 1) dX6_findsOneCode_84 (by decide) (by omega) (fun h84 => ?_) (fun h84 => ?_)
        · refine lv_iconst (v := zI 0) C.1 C.2.1 dX6_findsOneCode_91 (by decide) ?_
          exact hret _ _ _ _ (zI 0) hS ⟨fun z => absurd (show (cdL F tb a (U2 F a)).1 = 1 from z) (by rw [← hje]; omega), fun _ => rfl, τ1, hM, hc, fun z => absurd (show (cdL F tb a (U2 F a)).1 = 1 from z) (by rw [← hje]; omega), hot⟩ rfl dX6_findsOneCode_92
        · refine lv_iconst (v := zI 1) C.1 C.2.1 dX6_findsOneCode_87 (by decide) ?_
          refine lv_goto (tgt := 92) C.1 C.2.1 dX6_findsOneCode_88 (by decide) ?_
          exact hret _ _ _ _ (zI 1) hS ⟨fun _ => rfl, fun z => absurd (show (cdL F tb a (U2 F a)).1 = 1 by rw [← hje]; omega) z, τ1, hM, hc, fun _ => (by rw [show cdA F tb a = cdL F tb a j by rw [hje]; rfl]; exact hfo (by omega)), hot⟩ rfl dX6_findsOneCode_92
      · have hs := hA.s4 hB.1 hn (show j < U2 F a by omega)
        have hcl := cdLle F tb a j
        refine lv_aload_n C.1 C.2.1 dX6_findsOneCode_27 rfl (lv_at hl 4 rfl) ?_
        refine z_get C (v := .ref (ad 3)) hM.img rfl bi_wsX20 1 (by decide) zw_14_20 rfl rfl dX6_findsOneCode_28 ?_
        refine lv_aload_n C.1 C.2.1 dX6_findsOneCode_31 rfl (lv_at hl 4 rfl) ?_
        refine z_get C (v := .ref (ad 1)) hM.img rfl bi_wsX20 0 (by decide) zw_14_7 rfl rfl dX6_findsOneCode_32 ?_
        refine lv_iload C.1 C.2.1 dX6_findsOneCode_35 (lv_at hl 2 rfl) ?_
        refine z_readV C (As := [zN (atp F a j)]) (rest := [.ref (ad 3)]) (c_u2 l Z hM hB (atp F a j) rfl (by omega)) hM.byt rfl ⟨⟨zw_10_5, zw_2_15, zw_14_13⟩, zd_X1_u2⟩ zw_10_3 zw_10_4 ⟨Nat.le_of_ble_eq_true rfl, Nat.le_of_ble_eq_true rfl⟩ ⟨rfl, rfl⟩ rfl hl.1 rfl (Nat.le_of_ble_eq_true rfl) dX6_findsOneCode_37 ⟨Nat.zero_le _, Nat.zero_le _⟩ hS (fun locs hS => ?_)
        have := U2_lt hB.1 (atp F a j)
        refine va_ldcS C.1 C.2.1 C.2.2.2.1 C.2.2.2.2.2.2.2.2.2.1.2.2.2.2.2.1 dX6_findsOneCode_40 ?_
        refine z_readV C (As := [zN (U2 F (atp F a j)), .ref (Z.2.2.1 0)]) (rest := []) (c_X7_says l Z hM hB hP (w := 0) (by decide) (hnmA j (by omega)).1 (p4.nm (hnmA j (by omega)).2).1) hM.pol rfl ⟨⟨zw_17_2, zw_2_19, zw_16_23⟩, zd_X7_says⟩ zw_17_0 zw_17_1 ⟨Nat.le_of_ble_eq_true rfl, Nat.le_of_ble_eq_true rfl⟩ ⟨rfl, rfl⟩ rfl hl.1 rfl (Nat.le_of_ble_eq_true rfl) dX6_findsOneCode_42 ⟨Nat.zero_le _, Nat.zero_le _⟩ hS (fun locs hS => ?_)
        refine y_ifb_eq (tgt := 57) C dX6_findsOneCode_45 (by decide) (fun h45 => ?_) (fun h45 => ?_)
        · rw [show ((cdL F tb a j).1 : Nat) = (cdL F tb a (j + 1)).1 from by rw [cdL_0 h45]] at hl
          refine lv_iload C.1 C.2.1 dX6_findsOneCode_57 (lv_at hl 2 rfl) ?_
          refine lv_bipush (v := zI 6) C.1 C.2.1 dX6_findsOneCode_59 (by decide) ?_
          refine lv_aload_n C.1 C.2.1 dX6_findsOneCode_61 rfl (lv_at hl 4 rfl) ?_
          refine z_get C (v := .ref (ad 1)) hM.img rfl bi_wsX20 0 (by decide) zw_14_7 rfl rfl dX6_findsOneCode_62 ?_
          refine lv_iload C.1 C.2.1 dX6_findsOneCode_65 (lv_at hl 2 rfl) ?_
          refine lv_iconst (v := zI 2) C.1 C.2.1 dX6_findsOneCode_67 (by decide) ?_
          refine y_iaddN C (a := atp F a j) (b := 2) dX6_findsOneCode_68 ?_
          refine z_readV C (As := [zN ((atp F a j) + 2)]) (rest := [zN 6, zN (atp F a j)]) (c_s4 l Z hM hB ((atp F a j) + 2) rfl (by omega)) hM.byt rfl ⟨⟨zw_13_1, zw_2_15, zw_15_16⟩, zd_X1_s4⟩ zw_12_23 zw_13_0 ⟨Nat.le_of_ble_eq_true rfl, Nat.le_of_ble_eq_true rfl⟩ ⟨rfl, rfl⟩ rfl hl.1 rfl (Nat.le_of_ble_eq_true rfl) dX6_findsOneCode_69 ⟨Nat.zero_le _, Nat.zero_le _⟩ hS (fun locs hS => ?_)
          have := S4_rg hB.1 ((atp F a j) + 2)
          refine y_iadd C (a := 6) (b := S4 F ((atp F a j) + 2)) dX6_findsOneCode_72 ?_
          refine y_iadd C (a := ((atp F a j : Nat) : Int)) (b := 6 + (S4 F ((atp F a j) + 2))) dX6_findsOneCode_73 ?_
          refine lv_istore (lv' := [(5, zV (((atp F a j : Nat) : Int) + (6 + (S4 F ((atp F a j) + 2))))), (6, zN j), (3, zN ((cdL F tb a (j + 1)).1)), (4, zN (U2 F a)), (0, .ref (ad 0)), (1, .ref (ad (16 + bm))), (2, zN a)]) C.1 C.2.1 dX6_findsOneCode_74 hl (by decide) rfl (fun ls hl => ?_)
          have hl : lv_has ls 7 [(5, zN (atp F a (j + 1))), (6, zN j), (3, zN ((cdL F tb a (j + 1)).1)), (4, zN (U2 F a)), (0, .ref (ad 0)), (1, .ref (ad (16 + bm))), (2, zN a)] := by
            have e9 : zN (atp F a (j + 1)) = zV (((atp F a j : Nat) : Int) + (6 + (S4 F ((atp F a j) + 2)))) := congrArg (fun x : Int => Value.int (zI x)) (hs.2.1.symm)
            rw [e9]; exact hl
          refine lv_iinc (v := zI ((j + 1 : Nat) : Int)) (lv' := [(6, zN (j + 1)), (5, zN (atp F a (j + 1))), (3, zN ((cdL F tb a (j + 1)).1)), (4, zN (U2 F a)), (0, .ref (ad 0)), (1, .ref (ad (16 + bm))), (2, zN a)]) C.1 C.2.1 dX6_findsOneCode_76 hl (k := 1) rfl (zI_add _ _) (by decide) rfl (fun ls hl => ?_)
          refine lv_goto (tgt := 20) C.1 C.2.1 dX6_findsOneCode_79 (by decide) ?_
          exact ih_loop (j + 1) _ _ ls _ hS hM (by omega) (hc) hB hP (by rw [cdL_0 h45]; exact hfo) hot (lv_sub hl [0, 2, 1, 3, 4, 5, 6] rfl)
        · refine lv_aload_n C.1 C.2.1 dX6_findsOneCode_48 rfl (lv_at hl 5 rfl) ?_
          refine lv_iload C.1 C.2.1 dX6_findsOneCode_49 (lv_at hl 2 rfl) ?_
          refine z_put C (v := zN (atp F a j)) tyX0 (hM.bod bm (by omega)) rfl bi_wsX00 tyX0_ok nmX0 0 (by decide) zw_16_22 rfl rfl rfl rfl (Nat.le_of_ble_eq_true rfl) hS (cA.k _ (by omega)) dX6_findsOneCode_51 (fun H locs hu hn hS => ?_)
          have hM := hM.sb (m := bm) (by omega) 0 (by decide) hu hn
          have hB : cSrc (sb9 τ1 0 bm (zI ((atp F a j : Nat) : Int))) F n := hB.sf (by decide)
          have hP : cPl (sb9 τ1 0 bm (zI ((atp F a j : Nat) : Int))) F tb (U2 F 8) := hP.sf (by decide)
          refine lv_iinc (v := zI (((cdL F tb a j).1 + 1 : Nat) : Int)) (lv' := [(3, zN ((cdL F tb a j).1 + 1)), (6, zN j), (5, zN (atp F a j)), (4, zN (U2 F a)), (0, .ref (ad 0)), (1, .ref (ad (16 + bm))), (2, zN a)]) C.1 C.2.1 dX6_findsOneCode_54 hl (k := 1) rfl (zI_add _ _) (by decide) rfl (fun ls hl => ?_)
          rw [show ((cdL F tb a j).1 + 1 : Nat) = (cdL F tb a (j + 1)).1 from by rw [cdL_1 h45]] at hl
          refine lv_iload C.1 C.2.1 dX6_findsOneCode_57 (lv_at hl 2 rfl) ?_
          refine lv_bipush (v := zI 6) C.1 C.2.1 dX6_findsOneCode_59 (by decide) ?_
          refine lv_aload_n C.1 C.2.1 dX6_findsOneCode_61 rfl (lv_at hl 4 rfl) ?_
          refine z_get C (v := .ref (ad 1)) hM.img rfl bi_wsX20 0 (by decide) zw_14_7 rfl rfl dX6_findsOneCode_62 ?_
          refine lv_iload C.1 C.2.1 dX6_findsOneCode_65 (lv_at hl 2 rfl) ?_
          refine lv_iconst (v := zI 2) C.1 C.2.1 dX6_findsOneCode_67 (by decide) ?_
          refine y_iaddN C (a := atp F a j) (b := 2) dX6_findsOneCode_68 ?_
          refine z_readV C (As := [zN ((atp F a j) + 2)]) (rest := [zN 6, zN (atp F a j)]) (c_s4 l Z hM hB ((atp F a j) + 2) rfl (by omega)) hM.byt rfl ⟨⟨zw_13_1, zw_2_15, zw_15_16⟩, zd_X1_s4⟩ zw_12_23 zw_13_0 ⟨Nat.le_of_ble_eq_true rfl, Nat.le_of_ble_eq_true rfl⟩ ⟨rfl, rfl⟩ rfl hl.1 rfl (Nat.le_of_ble_eq_true rfl) dX6_findsOneCode_69 ⟨Nat.zero_le _, Nat.zero_le _⟩ hS (fun locs hS => ?_)
          have := S4_rg hB.1 ((atp F a j) + 2)
          refine y_iadd C (a := 6) (b := S4 F ((atp F a j) + 2)) dX6_findsOneCode_72 ?_
          refine y_iadd C (a := ((atp F a j : Nat) : Int)) (b := 6 + (S4 F ((atp F a j) + 2))) dX6_findsOneCode_73 ?_
          refine lv_istore (lv' := [(5, zV (((atp F a j : Nat) : Int) + (6 + (S4 F ((atp F a j) + 2))))), (3, zN ((cdL F tb a (j + 1)).1)), (6, zN j), (4, zN (U2 F a)), (0, .ref (ad 0)), (1, .ref (ad (16 + bm))), (2, zN a)]) C.1 C.2.1 dX6_findsOneCode_74 hl (by decide) rfl (fun ls hl => ?_)
          have hl : lv_has ls 7 [(5, zN (atp F a (j + 1))), (3, zN ((cdL F tb a (j + 1)).1)), (6, zN j), (4, zN (U2 F a)), (0, .ref (ad 0)), (1, .ref (ad (16 + bm))), (2, zN a)] := by
            have e9 : zN (atp F a (j + 1)) = zV (((atp F a j : Nat) : Int) + (6 + (S4 F ((atp F a j) + 2)))) := congrArg (fun x : Int => Value.int (zI x)) (hs.2.1.symm)
            rw [e9]; exact hl
          refine lv_iinc (v := zI ((j + 1 : Nat) : Int)) (lv' := [(6, zN (j + 1)), (5, zN (atp F a (j + 1))), (3, zN ((cdL F tb a (j + 1)).1)), (4, zN (U2 F a)), (0, .ref (ad 0)), (1, .ref (ad (16 + bm))), (2, zN a)]) C.1 C.2.1 dX6_findsOneCode_76 hl (k := 2) rfl (zI_add _ _) (by decide) rfl (fun ls hl => ?_)
          refine lv_goto (tgt := 20) C.1 C.2.1 dX6_findsOneCode_79 (by decide) ?_
          exact ih_loop (j + 1) _ _ ls _ hS hM (by omega) (chg_sf (by decide) hc) hB hP (fun _ => by rw [cdL_1 h45]; exact (congrFun (sf_at τ1 20 _) bm).trans upd_2) (fun i hi => ((congrFun (sf_at τ1 20 _) i).trans (upd_ne hi)).trans (hot i hi)) (lv_sub hl [0, 2, 1, 3, 4, 5, 6] rfl)
  exact loop (U2 F a + 1) 0 _ _ ls _ hS hM (by omega) chg.rf hB hP (fun z => absurd z (by show ¬ 1 ≤ 0; omega)) (fun _ _ => rfl) (lv_sub hl [0, 3, 1, 2, 4, 5, 6] rfl)

set_option maxHeartbeats 4000000 in
set_option maxRecDepth 20000 in
theorem c_X6_wrongCode (l : Launch) (Z : zT) {H : Heap} {ad : Nat → Nat} {τ : mS} {X : List (Nat × va_E)} (hM : isC Z H ad τ X) {F : Nat → Nat} {n : Nat} (hB : cSrc τ F n) {tb mt : Nat → Nat} {cl nf nm fa last : Nat} (hL : cLay τ F tb cl nf nm mt fa last) (hp : pLay F n tb cl nf nm mt fa last) (hx6 : x6 F tb (U2 F 8) = none) (hx9 : x9 F tb (U2 F 8) mt (nf + nm) fa = none) : zM l Z yX6_wrongCode cX6_wrongCode 4 (some .int) (rmk 7) [.ref (ad 0)] H (cA ad) 0 0 (fun v H' => v = some (zV (oI (x12 F tb mt nf (nf + nm)))) ∧ ∃ τ' : mS, isC Z H' ad τ' X ∧ chg [] [20] τ τ' ∧ (x12 F tb mt nf (nf + nm) = none → ∀ i, i < nm → τ'.2.1 20 i = zI (cP F tb mt nf i : Int))) := by
  have hn := hB.2.2.2
  have hP := hL.1
  obtain ⟨p1, p2, p3, p4, p5, p6, p7, p8, p9, p10, p11, p12⟩ := id hp
  obtain ⟨q1, q2, q3, q4, q5, q6, q7, q8, q9⟩ := id hL
  refine zM.introI (own := RX6) ⟨by decide, rfl⟩ (Nat.le_of_ble_eq_true rfl) ?_
  intro p e s m args below meth c Q ls hH C hl hret
  have hS : va_S (cA ad) s.heap H [] := by rw [hH]; exact va_S.rf
  have hl : lv_has ls 4 [(0, .ref (ad 0))] := hl
  refine lv_iconst (v := zI 0) C.1 C.2.1 dX6_wrongCode_0 (by decide) ?_
  refine lv_istore_n (lv' := [(1, zN 0), (0, .ref (ad 0))]) C.1 C.2.1 dX6_wrongCode_1 rfl hl (by decide) rfl (fun ls hl => ?_)
  have loop : ∀ (fu : Nat) (i : Nat) (τ1 : mS) (H : Heap) (ls : Array Slot) (locs : List Loc), va_S (cA ad) s.heap H locs → isC Z H ad τ1 X → (i ≤ nm ∧ nm < i + fu) → (chg [] [20] τ τ1) → (cSrc τ1 F n) → (cPl τ1 F tb (U2 F 8)) → (∀ j, j < i → τ1.2.1 20 j = zI (cP F tb mt nf j : Int)) → (fst1 (fun j => g12 F tb mt (nf + j)) (nm - i) i = fst1 (fun j => g12 F tb mt (nf + j)) nm 0) → lv_has ls 4 [(1, zN i), (0, .ref (ad 0))] → W p l e (rmk 7) s m args below meth c H locs 0 0 Q (F0 m 2 ls []) := by
    intro fu
    induction fu with
    | zero =>
      intro i τ1 H ls locs hS hM hi hc hB hP hr12 he hl
      (exact absurd hi.2 (by omega))
    | succ fu ih_loop =>
      intro i τ1 H ls locs hS hM hi hc hB hP hr12 he hl
      have hx3 : τ1.1 3 = zI (nm : Int) := (hc.1 3 (by decide)).trans hL.2.2.2.1
      have hnm : nm ≤ 24 := p8
      refine lv_iload_n C.1 C.2.1 dX6_wrongCode_2 rfl (lv_at hl 0 rfl) ?_
      refine lv_aload_n C.1 C.2.1 dX6_wrongCode_3 rfl (lv_at hl 1 rfl) ?_
      refine z_get C (v := .int (τ1.1 3)) hM.img rfl bi_wsX20 7 (by decide) zw_14_12 rfl rfl dX6_wrongCode_4 ?_
      refine z_re (y := zI ((nm : Nat) : Int)) ((hc.1 3 (by decide)).trans hL.2.2.2.1) ?_
      refine y_icmp_ge (tgt := 49) C (a := ((i : Nat) : Int)) (b := ((nm : Nat) : Int)) dX6_wrongCode_7 (by decide) (by omega) (fun h7 => ?_) (fun h7 => ?_)
      · refine lv_iconst (v := zI (-1)) C.1 C.2.1 dX6_wrongCode_49 (by decide) ?_
        exact hret _ _ _ _ (zI (-1)) hS ⟨congrArg (fun x : Int => some (zV x)) (by rw [x12_r, ← he, show nm - i = 0 by omega]; rfl), τ1, hM, hc, fun _ j hj => hr12 j (by omega)⟩ rfl dX6_wrongCode_50
      · have hm2 := hp.m2 (j := i) (by omega)
        have hm3 := hm2.1
        have hx := x9_nm hx9 (j := nf + i) (by omega)
        refine lv_aload_n C.1 C.2.1 dX6_wrongCode_10 rfl (lv_at hl 1 rfl) ?_
        refine lv_iload_n C.1 C.2.1 dX6_wrongCode_11 rfl (lv_at hl 0 rfl) ?_
        refine z_readV C (As := [zN i]) (rest := []) (c_bodyOf l Z hM hx3 hnm i rfl (by omega)) hM.img rfl ⟨⟨zw_16_18, zw_1_18, zw_16_15⟩, zd_X2_bodyOf⟩ zw_16_16 zw_16_17 ⟨Nat.le_of_ble_eq_true rfl, Nat.le_of_ble_eq_true rfl⟩ ⟨rfl, rfl⟩ rfl hl.1 rfl (Nat.le_of_ble_eq_true rfl) dX6_wrongCode_12 ⟨Nat.zero_le _, Nat.zero_le _⟩ hS (fun locs hS => ?_)
        refine lv_astore_n (lv' := [(2, .ref (ad (16 + i))), (1, zN i), (0, .ref (ad 0))]) C.1 C.2.1 dX6_wrongCode_15 rfl hl (by decide) rfl (fun ls hl => ?_)
        refine lv_aload_n C.1 C.2.1 dX6_wrongCode_16 rfl (lv_at hl 2 rfl) ?_
        refine z_get C (v := .ref (ad 12)) hM.img rfl bi_wsX20 3 (by decide) zw_14_11 rfl rfl dX6_wrongCode_17 ?_
        refine lv_iload_n C.1 C.2.1 dX6_wrongCode_20 rfl (lv_at hl 1 rfl) ?_
        refine z_readSN C (As := [.ref (ad 12), zN i]) (rest := []) (c_at l Z (hM.row 12 (by decide)) (by decide) i rfl (by show _ < 24; omega)) ⟨⟨zw_11_13, zw_1_2⟩, zd_X11_at⟩ (by decide) zw_11_12 ⟨Nat.le_of_ble_eq_true rfl, Nat.le_of_ble_eq_true rfl⟩ ⟨rfl, rfl⟩ rfl hl.1 rfl (Nat.le_of_ble_eq_true rfl) dX6_wrongCode_21 ⟨Nat.zero_le _, Nat.zero_le _⟩ hS (fun locs hS => ?_)
        refine z_re (y := zI ((mt (nf + i) : Nat) : Int)) ((congrFun (hc.2.1 12 (by decide)) _).trans (q9 i (by omega))) ?_
        refine lv_istore_n (lv' := [(3, zN (mt (nf + i))), (2, .ref (ad (16 + i))), (1, zN i), (0, .ref (ad 0))]) C.1 C.2.1 dX6_wrongCode_24 rfl hl (by decide) rfl (fun ls hl => ?_)
        refine lv_aload_n C.1 C.2.1 dX6_wrongCode_25 rfl (lv_at hl 1 rfl) ?_
        refine lv_ifnull C.1 C.2.1 dX6_wrongCode_26 ?_
        refine lv_aload_n C.1 C.2.1 dX6_wrongCode_29 rfl (lv_at hl 3 rfl) ?_
        refine lv_aload_n C.1 C.2.1 dX6_wrongCode_30 rfl (lv_at hl 1 rfl) ?_
        refine lv_iload_n C.1 C.2.1 dX6_wrongCode_31 rfl (lv_at hl 0 rfl) ?_
        refine lv_bipush (v := zI 6) C.1 C.2.1 dX6_wrongCode_32 (by decide) ?_
        refine y_iaddN C (a := mt (nf + i)) (b := 6) dX6_wrongCode_34 ?_
        refine z_callS C (As := [.ref (ad 0), .ref (ad (16 + i)), zN ((mt (nf + i)) + 6)]) (rest := []) (c_X6_findsOneCode l Z hM hB hP p4 (a := mt (nf + i) + 6) (bm := i) (by omega) hm2.2 (fun j hj => by have h := hx.2.2 j hj; exact ⟨h.2.1, h.2.2⟩)) ⟨⟨zw_16_21, zw_13_10, zw_16_19⟩, zd_X6_findsOneCode⟩ zw_16_20 ⟨Nat.le_of_ble_eq_true rfl, Nat.le_of_ble_eq_true rfl⟩ ⟨rfl, rfl⟩ rfl hl.1 rfl (Nat.le_of_ble_eq_true rfl) dX6_wrongCode_35 ⟨Nat.zero_le _, Nat.zero_le _⟩ hS (fun _ h => h) (fun v H locs hp hS _ _ => ?_)
        obtain ⟨hv1, hv0, τ2, hM, hc2, hrw, hot⟩ := hp
        have hB := hB.chg hc2 (by decide) (by decide)
        have hP := hP.chg hc2 (by decide) (by decide)
        rcases Classical.em ((cdA F tb (mt (nf + i) + 6)).1 = 1) with ho1 | ho1
        · obtain rfl := hv1 ho1
          refine y_if_ne (tgt := 43) C (a := 1) dX6_wrongCode_38 (by decide) (by omega) (fun h38 => ?_) (fun h38 => ?_)
          · refine lv_iinc (v := zI ((i + 1 : Nat) : Int)) (lv' := [(1, zN (i + 1)), (3, zN (mt (nf + i))), (2, .ref (ad (16 + i))), (0, .ref (ad 0))]) C.1 C.2.1 dX6_wrongCode_43 hl (k := 2) rfl (zI_add _ _) (by decide) rfl (fun ls hl => ?_)
            refine lv_goto (tgt := 2) C.1 C.2.1 dX6_wrongCode_46 (by decide) ?_
            exact ih_loop (i + 1) _ _ ls _ hS hM (by omega) ((hc.tr hc2)) hB hP (fun j hj => by rcases Nat.lt_succ_iff_lt_or_eq.mp hj with h | h; (rw [hot j (by omega)]; exact hr12 j h); (subst h; exact hrw ho1)) (by rw [← he, show nm - i = (nm - (i + 1)) + 1 by omega, fst1_s (g := fun j => g12 F tb mt (nf + j)) (if_pos ho1)]) (lv_sub hl [0, 3] rfl)
          · exact False.elim (by first | omega | exact h38 rfl)
        · obtain rfl := hv0 ho1
          refine y_if_ne (tgt := 43) C (a := 0) dX6_wrongCode_38 (by decide) (by omega) (fun h38 => ?_) (fun h38 => ?_)
          · exact False.elim (by first | omega | exact h38 rfl)
          · refine lv_iload_n C.1 C.2.1 dX6_wrongCode_41 rfl (lv_at hl 0 rfl) ?_
            exact hret _ _ _ _ (zI ((mt (nf + i) : Nat) : Int)) hS ⟨congrArg (fun x : Int => some (zV x)) (by rw [x12_r, ← he, show nm - i = (nm - (i + 1)) + 1 by omega, fst1_e (g := fun j => g12 F tb mt (nf + j)) (if_neg ho1)]; rfl), τ2, hM, hc.tr hc2, fun z => absurd z (by rw [x12_r, ← he, show nm - i = (nm - (i + 1)) + 1 by omega, fst1_e (g := fun j => g12 F tb mt (nf + j)) (if_neg ho1)]; simp)⟩ rfl dX6_wrongCode_42
  exact loop (nm + 1) 0 _ _ ls _ hS hM (by omega) chg.rf hB hP (fun j hj => by omega) rfl hl
