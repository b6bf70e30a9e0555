/-! the component: rules 9 and 10 -/
theorem gN_b {F tb : Nat → Nat} {pc q r : Nat} (h : gN F tb pc q = some r) : r = q := by unfold gN at h; split at h; cases h; cases h; rfl
theorem x9a_b {F tb : Nat → Nat} {pc a n q : Nat} (hA : pAt F n a) (h : x9a F tb pc a = some q) : q ≤ n := by
  obtain ⟨j, -, b, e⟩ := fst1_q _ _ h
  have := gN_b e
  have := (hA.2.2 j (by omega)).1
  omega
theorem x9m_b {F tb f : Nat → Nat} {pc n cnt q : Nat} (hf : ∀ j, j < cnt → f j + 8 ≤ n ∧ pAt F n (f j + 6)) (h : fst1 (x9m F tb pc f) cnt 0 = some q) : q ≤ n := by
  obtain ⟨j, -, b, e⟩ := fst1_q _ _ h
  obtain ⟨h1, h2⟩ := hf j (by omega)
  unfold x9m at e
  cases e1 : gN F tb pc (f j + 2) with
  | some r => rw [e1] at e; cases e; have := gN_b e1; omega
  | none =>
    rw [e1] at e
    cases e2 : gN F tb pc (f j + 4) with
    | some r => rw [e2] at e; cases e; have := gN_b e2; omega
    | none => rw [e2] at e; exact x9a_b h2 e
theorem kdW_ty (F : Nat → Nat) (fp ln : Nat) : kdW F fp ln 0 ≠ 0 ↔ isTy F fp ln = true := by
  have h := kd_ty F fp ln 0
  unfold kdW isTy
  rw [decide_eq_true_iff]
  by_cases a : kd F fp ln 0 = 0
  · have := h.1 a
    rw [if_neg (fun z => z.1 a)]
    constructor
    · intro z; exact absurd rfl z
    · intro z; omega
  · have := h.2.1 a
    have := ltO_le (kd F fp ln 0)
    constructor
    · intro z
      by_cases b : kd F fp ln 0 ≠ 0 ∧ 0 + ltO (kd F fp ln 0) = ln
      · omega
      · rw [if_neg b] at z; exact absurd rfl z
    · intro z
      rw [if_pos ⟨a, by omega⟩]; exact a
theorem rsV_pp (F : Nat → Nat) (fp ln : Nat) : (rsV F fp ln ≠ 0 ↔ 0 ≤ pp F fp ln) ∧ (0 ≤ pp F fp ln → pp F fp ln = (paV F fp ln : Int)) := by
  have h := kd_ty F fp ln ((ppI F fp ln).1 + 1)
  have hl := ltO_le (kd F fp ln ((ppI F fp ln).1 + 1))
  have h86 : nmC F fp ln ((ppI F fp ln).1 + 1) = 86 → kd F fp ln ((ppI F fp ln).1 + 1) = 0 := by intro z; unfold kd; rw [if_neg (by omega), if_neg (by omega), if_neg (by omega)]
  by_cases a : nmC F fp ln 0 = 40 ∧ nmC F fp ln (ppI F fp ln).1 = 41
  · have ep : pp F fp ln = if ppLast F fp ln ((ppI F fp ln).1 + 1) > 0 ∧ (ppI F fp ln).1 + 1 + ppLast F fp ln ((ppI F fp ln).1 + 1) = ln then ((ppI F fp ln).2 : Int) else -1 := by
      unfold pp
      by_cases z : ppLast F fp ln ((ppI F fp ln).1 + 1) > 0 ∧ (ppI F fp ln).1 + 1 + ppLast F fp ln ((ppI F fp ln).1 + 1) = ln
      · rw [if_pos ⟨a.1, a.2, z.1, z.2⟩, if_pos z]
      · rw [if_neg (fun y => z ⟨y.2.2.1, y.2.2.2⟩), if_neg z]
    have er : rsV F fp ln = if (ppI F fp ln).1 + 2 = ln ∧ nmC F fp ln ((ppI F fp ln).1 + 1) = 86 then 7 else kdW F fp ln ((ppI F fp ln).1 + 1) := if_pos a
    have ea : paV F fp ln = (ppI F fp ln).2 := if_pos a
    rw [ep, er, ea]
    unfold ppLast kdW
    by_cases b : nmC F fp ln ((ppI F fp ln).1 + 1) = 86
    · have := h86 b
      rw [if_pos b]
      by_cases d : (ppI F fp ln).1 + 2 = ln
      · rw [if_pos ⟨d, b⟩, if_pos ⟨by omega, by omega⟩]
        exact ⟨⟨fun _ => by omega, fun _ => by omega⟩, fun _ => rfl⟩
      · rw [if_neg (fun z => d z.1), if_neg (fun z => z.1 this), if_neg (fun z => d (by omega))]
        exact ⟨⟨fun z => absurd rfl z, fun z => by omega⟩, fun z => by omega⟩
    · rw [if_neg b, if_neg (fun z => b z.2)]
      by_cases d : kd F fp ln ((ppI F fp ln).1 + 1) = 0
      · have := h.1 d
        rw [if_neg (fun z => z.1 d), if_neg (by omega)]
        exact ⟨⟨fun z => absurd rfl z, fun z => by omega⟩, fun z => by omega⟩
      · have t1 := h.2.1 d
        rw [t1]
        by_cases g : (ppI F fp ln).1 + 1 + ltO (kd F fp ln ((ppI F fp ln).1 + 1)) = ln
        · rw [if_pos ⟨d, g⟩, if_pos ⟨by omega, g⟩]
          exact ⟨⟨fun _ => by omega, fun _ => d⟩, fun _ => rfl⟩
        · rw [if_neg (fun z => g z.2), if_neg (fun z => g z.2)]
          exact ⟨⟨fun z => absurd rfl z, fun z => by omega⟩, fun z => by omega⟩
  · have ep : pp F fp ln = -1 := by unfold pp; rw [if_neg (fun y => a ⟨y.1, y.2.1⟩)]
    have er : rsV F fp ln = 0 := if_neg a
    rw [ep, er]
    exact ⟨⟨fun z => absurd rfl z, fun z => by omega⟩, fun z => by omega⟩
theorem good6_of {F tb : Nat → Nat} {pc k : Nat} (h : x6 F tb pc = none) (h1 : 1 ≤ k) (h2 : k < pc) : good6 F tb pc k = true := by
  have e := fst1_none _ _ h k h1 (by omega)
  unfold g6 at e
  split at e
  · assumption
  · cases e
theorem names10 {F tb : Nat → Nat} {pc k : Nat} (h : x6 F tb pc = none) (hk : 1 ≤ k ∧ k < pc) (ht : tg F tb k = 9 ∨ tg F tb k = 10) : isE F tb pc (e1 F tb k) 7 = true ∧ (1 ≤ e2 F tb k ∧ e2 F tb k < pc ∧ tg F tb (e2 F tb k) = 12) ∧ (1 ≤ e1 F tb (e2 F tb k) ∧ e1 F tb (e2 F tb k) < pc ∧ tg F tb (e1 F tb (e2 F tb k)) = 1) ∧ (1 ≤ e2 F tb (e2 F tb k) ∧ e2 F tb (e2 F tb k) < pc ∧ tg F tb (e2 F tb (e2 F tb k)) = 1) := by
  have g := good6_of h hk.1 hk.2
  unfold good6 at g
  rw [if_neg (by omega), if_neg (by omega), if_pos ht, Bool.and_eq_true] at g
  have a := isE_t g.2
  have g2 := good6_of h a.1 a.2.1
  unfold good6 at g2
  rw [if_neg (by omega), if_pos a.2.2, Bool.and_eq_true] at g2
  exact ⟨g.1, a, isE_t g2.1, isE_t g2.2⟩

set_option maxHeartbeats 4000000 in
set_option maxRecDepth 20000 in
theorem c_X6_wrongAttributeName (l : Launch) (Z : zT) {H : Heap} {ad : Nat → Nat} {τ : mS} {X : List (Nat × va_E)} (hM : isC Z H ad τ X) {F : Nat → Nat} {n : Nat} (hB : cSrc τ F n) {tb mt : Nat → Nat} {cl nf nm fa last : Nat} (hL : cLay τ F tb cl nf nm mt fa last) (hp : pLay F n tb cl nf nm mt fa last) {a : Nat} (hA : pAt F n a) : zP l Z yX6_wrongAttributeName cX6_wrongAttributeName 5 (some .int) (rmk 3) [.ref (ad 0), zN a] H (zV (oI (x9a F tb (U2 F 8) a))) := by
  have hn := hB.2.2.2
  have hP := hL.1
  obtain ⟨p1, p2, p3, p4, p5, p6, p7, p8, p9, p10, p11, p12⟩ := id hp
  obtain ⟨q1, q2, q3, q4, q5, q6, q7, q8, q9⟩ := id hL
  have hA1 := hA.1
  refine zM.introI (own := RX6) ⟨by decide, rfl⟩ (Nat.le_of_ble_eq_true rfl) ?_
  intro p e s m args below meth c Q ls hH C hl hret
  have hS : va_S (fun _ => False) s.heap H [] := by rw [hH]; exact va_S.rf
  have hl : lv_has ls 5 [(0, .ref (ad 0)), (1, zN a)] := hl
  refine lv_aload_n C.1 C.2.1 dX6_wrongAttributeName_0 rfl (lv_at hl 0 rfl) ?_
  refine z_get C (v := .ref (ad 1)) hM.img rfl bi_wsX20 0 (by decide) zw_14_7 rfl rfl dX6_wrongAttributeName_1 ?_
  refine lv_iload_n C.1 C.2.1 dX6_wrongAttributeName_4 rfl (lv_at hl 1 rfl) ?_
  refine z_readV C (As := [zN a]) (rest := []) (c_u2 l Z hM hB a rfl (by omega)) hM.byt rfl ⟨⟨zw_10_5, zw_2_15, zw_14_13⟩, zd_X1_u2⟩ zw_10_3 zw_10_4 ⟨Nat.le_of_ble_eq_true rfl, Nat.le_of_ble_eq_true rfl⟩ ⟨rfl, rfl⟩ rfl hl.1 rfl (Nat.le_of_ble_eq_true rfl) dX6_wrongAttributeName_5 ⟨Nat.zero_le _, Nat.zero_le _⟩ hS (fun locs hS => ?_)
  have := U2_lt hB.1 a
  refine lv_istore_n (lv' := [(2, zN (U2 F a)), (0, .ref (ad 0)), (1, zN a)]) C.1 C.2.1 dX6_wrongAttributeName_8 rfl hl (by decide) rfl (fun ls hl => ?_)
  refine lv_iload_n C.1 C.2.1 dX6_wrongAttributeName_9 rfl (lv_at hl 2 rfl) ?_
  refine lv_iconst (v := zI 2) C.1 C.2.1 dX6_wrongAttributeName_10 (by decide) ?_
  refine y_iaddN C (a := a) (b := 2) dX6_wrongAttributeName_11 ?_
  refine lv_istore_n (lv' := [(3, zN (a + 2)), (2, zN (U2 F a)), (0, .ref (ad 0)), (1, zN a)]) C.1 C.2.1 dX6_wrongAttributeName_12 rfl hl (by decide) rfl (fun ls hl => ?_)
  refine lv_iconst (v := zI 0) C.1 C.2.1 dX6_wrongAttributeName_13 (by decide) ?_
  refine lv_istore (lv' := [(4, zN 0), (3, zN (a + 2)), (2, zN (U2 F a)), (0, .ref (ad 0)), (1, zN a)]) C.1 C.2.1 dX6_wrongAttributeName_14 hl (by decide) rfl (fun ls hl => ?_)
  have loop : ∀ (fu : Nat) (j : Nat) (ls : Array Slot) (locs : List Loc), va_S (fun _ => False) s.heap H locs → (j ≤ U2 F a ∧ U2 F a < j + fu) → (fst1 (fun j => gN F tb (U2 F 8) (atp F a j)) (U2 F a - j) j = x9a F tb (U2 F 8) a) → lv_has ls 5 [(4, zN j), (3, zN (atp F a j)), (2, zN (U2 F a)), (0, .ref (ad 0)), (1, zN a)] → W p l e (rmk 3) s m args below meth c H locs 0 0 Q (F0 m 16 ls []) := by
    intro fu
    induction fu with
    | zero =>
      intro j ls locs hS hj he hl
      (exact absurd hj.2 (by omega))
    | succ fu ih_loop =>
      intro j ls locs hS hj he hl
      refine lv_iload C.1 C.2.1 dX6_wrongAttributeName_16 (lv_at hl 0 rfl) ?_
      refine lv_iload_n C.1 C.2.1 dX6_wrongAttributeName_18 rfl (lv_at hl 2 rfl) ?_
      refine y_icmp_ge (tgt := 65) C (a := ((j : Nat) : Int)) (b := ((U2 F a : Nat) : Int)) dX6_wrongAttributeName_19 (by decide) (by omega) (fun h19 => ?_) (fun h19 => ?_)
      · refine lv_iconst (v := zI (-1)) C.1 C.2.1 dX6_wrongAttributeName_65 (by decide) ?_
        exact hret _ _ _ _ (zI (-1)) hS ⟨congrArg (fun x : Int => some (zV x)) (by rw [← he, show U2 F a - j = 0 by omega]; rfl), rfl⟩ rfl dX6_wrongAttributeName_66
      · have hs := hA.s4 hB.1 hn (show j < U2 F a by omega)
        refine lv_aload_n C.1 C.2.1 dX6_wrongAttributeName_22 rfl (lv_at hl 3 rfl) ?_
        refine z_get C (v := .ref (ad 3)) hM.img rfl bi_wsX20 1 (by decide) zw_14_20 rfl rfl dX6_wrongAttributeName_23 ?_
        refine lv_iconst (v := zI 1) C.1 C.2.1 dX6_wrongAttributeName_26 (by decide) ?_
        refine lv_aload_n C.1 C.2.1 dX6_wrongAttributeName_27 rfl (lv_at hl 3 rfl) ?_
        refine z_get C (v := .ref (ad 1)) hM.img rfl bi_wsX20 0 (by decide) zw_14_7 rfl rfl dX6_wrongAttributeName_28 ?_
        refine lv_iload_n C.1 C.2.1 dX6_wrongAttributeName_31 rfl (lv_at hl 1 rfl) ?_
        refine z_readV C (As := [zN (atp F a j)]) (rest := [zN 1, .ref (ad 3)]) (c_u2 l Z hM hB (atp F a j) rfl (by omega)) hM.byt rfl ⟨⟨zw_10_5, zw_2_15, zw_14_13⟩, zd_X1_u2⟩ zw_10_3 zw_10_4 ⟨Nat.le_of_ble_eq_true rfl, Nat.le_of_ble_eq_true rfl⟩ ⟨rfl, rfl⟩ rfl hl.1 rfl (Nat.le_of_ble_eq_true rfl) dX6_wrongAttributeName_32 ⟨Nat.zero_le _, Nat.zero_le _⟩ hS (fun locs hS => ?_)
        have := U2_lt hB.1 (atp F a j)
        refine z_readV C (As := [zN 1, zN (U2 F (atp F a j))]) (rest := []) (c_X7_is l Z hM hB hP 1 (by decide) (U2 F (atp F a j)) rfl (by omega)) hM.pol rfl ⟨⟨zw_11_11, zw_2_19, zw_13_22⟩, zd_X7_is⟩ zw_11_9 zw_11_10 ⟨Nat.le_of_ble_eq_true rfl, Nat.le_of_ble_eq_true rfl⟩ ⟨rfl, rfl⟩ rfl hl.1 rfl (Nat.le_of_ble_eq_true rfl) dX6_wrongAttributeName_35 ⟨Nat.zero_le _, Nat.zero_le _⟩ hS (fun locs hS => ?_)
        refine y_ifb_ne (tgt := 43) C dX6_wrongAttributeName_38 (by decide) (fun h38 => ?_) (fun h38 => ?_)
        · refine lv_iload_n C.1 C.2.1 dX6_wrongAttributeName_43 rfl (lv_at hl 1 rfl) ?_
          refine lv_bipush (v := zI 6) C.1 C.2.1 dX6_wrongAttributeName_44 (by decide) ?_
          refine lv_aload_n C.1 C.2.1 dX6_wrongAttributeName_46 rfl (lv_at hl 3 rfl) ?_
          refine z_get C (v := .ref (ad 1)) hM.img rfl bi_wsX20 0 (by decide) zw_14_7 rfl rfl dX6_wrongAttributeName_47 ?_
          refine lv_iload_n C.1 C.2.1 dX6_wrongAttributeName_50 rfl (lv_at hl 1 rfl) ?_
          refine lv_iconst (v := zI 2) C.1 C.2.1 dX6_wrongAttributeName_51 (by decide) ?_
          refine y_iaddN C (a := atp F a j) (b := 2) dX6_wrongAttributeName_52 ?_
          refine z_readV C (As := [zN ((atp F a j) + 2)]) (rest := [zN 6, zN (atp F a j)]) (c_s4 l Z hM hB ((atp F a j) + 2) rfl (by omega)) hM.byt rfl ⟨⟨zw_13_1, zw_2_15, zw_15_16⟩, zd_X1_s4⟩ zw_12_23 zw_13_0 ⟨Nat.le_of_ble_eq_true rfl, Nat.le_of_ble_eq_true rfl⟩ ⟨rfl, rfl⟩ rfl hl.1 rfl (Nat.le_of_ble_eq_true rfl) dX6_wrongAttributeName_53 ⟨Nat.zero_le _, Nat.zero_le _⟩ hS (fun locs hS => ?_)
          have := S4_rg hB.1 ((atp F a j) + 2)
          refine y_iadd C (a := 6) (b := S4 F ((atp F a j) + 2)) dX6_wrongAttributeName_56 ?_
          refine y_iadd C (a := ((atp F a j : Nat) : Int)) (b := 6 + (S4 F ((atp F a j) + 2))) dX6_wrongAttributeName_57 ?_
          refine lv_istore_n (lv' := [(3, zV (((atp F a j : Nat) : Int) + (6 + (S4 F ((atp F a j) + 2))))), (4, zN j), (2, zN (U2 F a)), (0, .ref (ad 0)), (1, zN a)]) C.1 C.2.1 dX6_wrongAttributeName_58 rfl hl (by decide) rfl (fun ls hl => ?_)
          have hl : lv_has ls 5 [(3, zN (atp F a (j + 1))), (4, zN j), (2, zN (U2 F a)), (0, .ref (ad 0)), (1, zN a)] := by
            have e9 : zN (atp F a (j + 1)) = zV (((atp F a j : Nat) : Int) + (6 + (S4 F ((atp F a j) + 2)))) := congrArg (fun x : Int => Value.int (zI x)) (hs.2.1.symm)
            rw [e9]; exact hl
          refine lv_iinc (v := zI ((j + 1 : Nat) : Int)) (lv' := [(4, zN (j + 1)), (3, zN (atp F a (j + 1))), (2, zN (U2 F a)), (0, .ref (ad 0)), (1, zN a)]) C.1 C.2.1 dX6_wrongAttributeName_59 hl (k := 1) rfl (zI_add _ _) (by decide) rfl (fun ls hl => ?_)
          refine lv_goto (tgt := 16) C.1 C.2.1 dX6_wrongAttributeName_62 (by decide) ?_
          exact ih_loop (j + 1) ls _ hS (by omega) (by rw [← he, show U2 F a - j = (U2 F a - (j + 1)) + 1 by omega, fst1_s (by unfold gN; rw [if_pos h38])]) hl
        · refine lv_iload_n C.1 C.2.1 dX6_wrongAttributeName_41 rfl (lv_at hl 1 rfl) ?_
          exact hret _ _ _ _ (zI ((atp F a j : Nat) : Int)) hS ⟨congrArg (fun x : Int => some (zV x)) (by rw [← he, show U2 F a - j = (U2 F a - (j + 1)) + 1 by omega, fst1_e (by unfold gN; rw [if_neg (by rw [h38]; decide)])]; rfl), rfl⟩ rfl dX6_wrongAttributeName_42
  exact loop (U2 F a + 1) 0 ls _ hS (by omega) rfl hl

set_option maxHeartbeats 4000000 in
set_option maxRecDepth 20000 in
theorem c_wmN11 (l : Launch) (Z : zT) {H : Heap} {ad : Nat → Nat} {τ : mS} {X : List (Nat × va_E)} (hM : isC Z H ad τ X) {F : Nat → Nat} {n : Nat} (hB : cSrc τ F n) {tb mt : Nat → Nat} {cl nf nm fa last : Nat} (hL : cLay τ F tb cl nf nm mt fa last) (hp : pLay F n tb cl nf nm mt fa last) {cnt : Nat} {f : Nat → Nat} (hr : ∀ j, j < cnt → τ.2.1 11 j = zI (f j : Int)) (hc24 : cnt ≤ 24) (hf : ∀ j, j < cnt → f j + 8 ≤ n ∧ pAt F n (f j + 6)) : zP l Z yX6_wrongMemberName cX6_wrongMemberName 6 (some .int) (rmk 4) [.ref (ad 0), .ref (ad 11), zN cnt] H (zV (oI (fst1 (x9m F tb (U2 F 8) f) cnt 0))) := by
  have hn := hB.2.2.2
  have hP := hL.1
  obtain ⟨p1, p2, p3, p4, p5, p6, p7, p8, p9, p10, p11, p12⟩ := id hp
  obtain ⟨q1, q2, q3, q4, q5, q6, q7, q8, q9⟩ := id hL
  refine zM.introI (own := RX6) ⟨by decide, rfl⟩ (Nat.le_of_ble_eq_true rfl) ?_
  intro p e s m args below meth c Q ls hH C hl hret
  have hS : va_S (fun _ => False) s.heap H [] := by rw [hH]; exact va_S.rf
  have hl : lv_has ls 6 [(0, .ref (ad 0)), (1, .ref (ad 11)), (2, zN cnt)] := hl
  refine lv_iconst (v := zI 0) C.1 C.2.1 dX6_wrongMemberName_0 (by decide) ?_
  refine lv_istore_n (lv' := [(3, zN 0), (0, .ref (ad 0)), (1, .ref (ad 11)), (2, zN cnt)]) C.1 C.2.1 dX6_wrongMemberName_1 rfl hl (by decide) rfl (fun ls hl => ?_)
  have loop : ∀ (fu : Nat) (i : Nat) (ls : Array Slot) (locs : List Loc), va_S (fun _ => False) s.heap H locs → (i ≤ cnt ∧ cnt < i + fu) → (fst1 (x9m F tb (U2 F 8) f) (cnt - i) i = fst1 (x9m F tb (U2 F 8) f) cnt 0) → lv_has ls 6 [(3, zN i), (0, .ref (ad 0)), (1, .ref (ad 11)), (2, zN cnt)] → W p l e (rmk 4) s m args below meth c H locs 0 0 Q (F0 m 2 ls []) := by
    intro fu
    induction fu with
    | zero =>
      intro i ls locs hS hi he hl
      (exact absurd hi.2 (by omega))
    | succ fu ih_loop =>
      intro i ls locs hS hi he hl
      refine lv_iload_n C.1 C.2.1 dX6_wrongMemberName_2 rfl (lv_at hl 0 rfl) ?_
      refine lv_iload_n C.1 C.2.1 dX6_wrongMemberName_3 rfl (lv_at hl 3 rfl) ?_
      refine y_icmp_ge (tgt := 84) C (a := ((i : Nat) : Int)) (b := ((cnt : Nat) : Int)) dX6_wrongMemberName_4 (by decide) (by omega) (fun h4 => ?_) (fun h4 => ?_)
      · refine lv_iconst (v := zI (-1)) C.1 C.2.1 dX6_wrongMemberName_84 (by decide) ?_
        exact hret _ _ _ _ (zI (-1)) hS ⟨congrArg (fun x : Int => some (zV x)) (by rw [← he, show cnt - i = 0 by omega]; rfl), rfl⟩ rfl dX6_wrongMemberName_85
      · obtain ⟨hf1, hfa2⟩ := hf i (by omega)
        refine lv_aload_n C.1 C.2.1 dX6_wrongMemberName_7 rfl (lv_at hl 2 rfl) ?_
        refine lv_iload_n C.1 C.2.1 dX6_wrongMemberName_8 rfl (lv_at hl 0 rfl) ?_
        refine z_readSN C (As := [.ref (ad 11), zN i]) (rest := []) (c_at l Z (hM.row 11 (by decide)) (by decide) i rfl (by show _ < 24; omega)) ⟨⟨zw_11_13, zw_1_2⟩, zd_X11_at⟩ (by decide) zw_11_12 ⟨Nat.le_of_ble_eq_true rfl, Nat.le_of_ble_eq_true rfl⟩ ⟨rfl, rfl⟩ rfl hl.1 rfl (Nat.le_of_ble_eq_true rfl) dX6_wrongMemberName_9 ⟨Nat.zero_le _, Nat.zero_le _⟩ hS (fun locs hS => ?_)
        refine z_re (y := zI ((f i : Nat) : Int)) (hr i (by omega)) ?_
        refine lv_istore (lv' := [(4, zN (f i)), (3, zN i), (0, .ref (ad 0)), (1, .ref (ad 11)), (2, zN cnt)]) C.1 C.2.1 dX6_wrongMemberName_12 hl (by decide) rfl (fun ls hl => ?_)
        refine lv_aload_n C.1 C.2.1 dX6_wrongMemberName_14 rfl (lv_at hl 2 rfl) ?_
        refine z_get C (v := .ref (ad 3)) hM.img rfl bi_wsX20 1 (by decide) zw_14_20 rfl rfl dX6_wrongMemberName_15 ?_
        refine lv_iconst (v := zI 1) C.1 C.2.1 dX6_wrongMemberName_18 (by decide) ?_
        refine lv_aload_n C.1 C.2.1 dX6_wrongMemberName_19 rfl (lv_at hl 2 rfl) ?_
        refine lv_iload C.1 C.2.1 dX6_wrongMemberName_20 (lv_at hl 0 rfl) ?_
        refine z_readV C (As := [zN (f i)]) (rest := [zN 1, .ref (ad 3)]) (c_X2_nameOf l Z hM hB (f i) rfl (by omega)) hM.img rfl ⟨⟨zw_15_7, zw_1_18, zw_15_4⟩, zd_X2_nameOf⟩ zw_15_5 zw_15_6 ⟨Nat.le_of_ble_eq_true rfl, Nat.le_of_ble_eq_true rfl⟩ ⟨rfl, rfl⟩ rfl hl.1 rfl (Nat.le_of_ble_eq_true rfl) dX6_wrongMemberName_22 ⟨Nat.zero_le _, Nat.zero_le _⟩ hS (fun locs hS => ?_)
        have hnt22 := U2_lt hB.1 ((f i) + 2)
        refine z_readV C (As := [zN 1, zN (U2 F ((f i) + 2))]) (rest := []) (c_X7_is l Z hM hB hP 1 (by decide) (U2 F ((f i) + 2)) rfl (by omega)) hM.pol rfl ⟨⟨zw_11_11, zw_2_19, zw_13_22⟩, zd_X7_is⟩ zw_11_9 zw_11_10 ⟨Nat.le_of_ble_eq_true rfl, Nat.le_of_ble_eq_true rfl⟩ ⟨rfl, rfl⟩ rfl hl.1 rfl (Nat.le_of_ble_eq_true rfl) dX6_wrongMemberName_25 ⟨Nat.zero_le _, Nat.zero_le _⟩ hS (fun locs hS => ?_)
        refine y_ifb_ne (tgt := 36) C dX6_wrongMemberName_28 (by decide) (fun h28 => ?_) (fun h28 => ?_)
        · refine lv_aload_n C.1 C.2.1 dX6_wrongMemberName_36 rfl (lv_at hl 2 rfl) ?_
          refine z_get C (v := .ref (ad 3)) hM.img rfl bi_wsX20 1 (by decide) zw_14_20 rfl rfl dX6_wrongMemberName_37 ?_
          refine lv_iconst (v := zI 1) C.1 C.2.1 dX6_wrongMemberName_40 (by decide) ?_
          refine lv_aload_n C.1 C.2.1 dX6_wrongMemberName_41 rfl (lv_at hl 2 rfl) ?_
          refine lv_iload C.1 C.2.1 dX6_wrongMemberName_42 (lv_at hl 0 rfl) ?_
          refine z_readV C (As := [zN (f i)]) (rest := [zN 1, .ref (ad 3)]) (c_X2_typeOf l Z hM hB (f i) rfl (by omega)) hM.img rfl ⟨⟨zw_15_12, zw_1_18, zw_15_9⟩, zd_X2_typeOf⟩ zw_15_10 zw_15_11 ⟨Nat.le_of_ble_eq_true rfl, Nat.le_of_ble_eq_true rfl⟩ ⟨rfl, rfl⟩ rfl hl.1 rfl (Nat.le_of_ble_eq_true rfl) dX6_wrongMemberName_44 ⟨Nat.zero_le _, Nat.zero_le _⟩ hS (fun locs hS => ?_)
          have hnt44 := U2_lt hB.1 ((f i) + 4)
          refine z_readV C (As := [zN 1, zN (U2 F ((f i) + 4))]) (rest := []) (c_X7_is l Z hM hB hP 1 (by decide) (U2 F ((f i) + 4)) rfl (by omega)) hM.pol rfl ⟨⟨zw_11_11, zw_2_19, zw_13_22⟩, zd_X7_is⟩ zw_11_9 zw_11_10 ⟨Nat.le_of_ble_eq_true rfl, Nat.le_of_ble_eq_true rfl⟩ ⟨rfl, rfl⟩ rfl hl.1 rfl (Nat.le_of_ble_eq_true rfl) dX6_wrongMemberName_47 ⟨Nat.zero_le _, Nat.zero_le _⟩ hS (fun locs hS => ?_)
          refine y_ifb_ne (tgt := 58) C dX6_wrongMemberName_50 (by decide) (fun h50 => ?_) (fun h50 => ?_)
          · refine lv_aload_n C.1 C.2.1 dX6_wrongMemberName_58 rfl (lv_at hl 2 rfl) ?_
            refine lv_iload C.1 C.2.1 dX6_wrongMemberName_59 (lv_at hl 0 rfl) ?_
            refine lv_bipush (v := zI 6) C.1 C.2.1 dX6_wrongMemberName_61 (by decide) ?_
            refine y_iaddN C (a := f i) (b := 6) dX6_wrongMemberName_63 ?_
            refine z_readS C (As := [.ref (ad 0), zN ((f i) + 6)]) (rest := []) (c_X6_wrongAttributeName l Z hM hB hL hp (a := (f i) + 6) hfa2) ⟨⟨zw_15_15, zw_13_10, zw_15_13⟩, zd_X6_wrongAttributeName⟩ zw_15_14 ⟨Nat.le_of_ble_eq_true rfl, Nat.le_of_ble_eq_true rfl⟩ ⟨rfl, rfl⟩ rfl hl.1 rfl (Nat.le_of_ble_eq_true rfl) dX6_wrongMemberName_64 ⟨Nat.zero_le _, Nat.zero_le _⟩ hS (fun locs hS => ?_)
            rcases oI_c (x9a F tb (U2 F 8) ((f i) + 6)) with ho64 | ⟨q64, ho64⟩
            · refine z_re (y := zI (-1)) (by rw [ho64]; rfl) ?_
              refine lv_istore (lv' := [(5, zV (-1)), (4, zN (f i)), (3, zN i), (0, .ref (ad 0)), (1, .ref (ad 11)), (2, zN cnt)]) C.1 C.2.1 dX6_wrongMemberName_67 hl (by decide) rfl (fun ls hl => ?_)
              refine lv_iload C.1 C.2.1 dX6_wrongMemberName_69 (lv_at hl 0 rfl) ?_
              refine lv_iconst (v := zI (-1)) C.1 C.2.1 dX6_wrongMemberName_71 (by decide) ?_
              refine y_icmp_eq (tgt := 78) C (a := -1) (b := -1) dX6_wrongMemberName_72 (by decide) (by omega) (fun h72 => ?_) (fun h72 => ?_)
              · refine lv_iinc (v := zI ((i + 1 : Nat) : Int)) (lv' := [(3, zN (i + 1)), (5, zV (-1)), (4, zN (f i)), (0, .ref (ad 0)), (1, .ref (ad 11)), (2, zN cnt)]) C.1 C.2.1 dX6_wrongMemberName_78 hl (k := 2) rfl (zI_add _ _) (by decide) rfl (fun ls hl => ?_)
                refine lv_goto (tgt := 2) C.1 C.2.1 dX6_wrongMemberName_81 (by decide) ?_
                exact ih_loop (i + 1) ls _ hS (by omega) (by rw [← he, show cnt - i = (cnt - (i + 1)) + 1 by omega, fst1_s (by unfold x9m gN; rw [if_pos h28, if_pos h50, ho64]; rfl)]) (lv_sub hl [0, 3, 4, 5] rfl)
              · exact False.elim (by first | omega | exact h72 rfl)
            · refine z_re (y := zI ((q64 : Nat) : Int)) (by rw [ho64]; rfl) ?_
              have hob64 : q64 ≤ n := x9a_b hfa2 ho64
              refine lv_istore (lv' := [(5, zN q64), (4, zN (f i)), (3, zN i), (0, .ref (ad 0)), (1, .ref (ad 11)), (2, zN cnt)]) C.1 C.2.1 dX6_wrongMemberName_67 hl (by decide) rfl (fun ls hl => ?_)
              refine lv_iload C.1 C.2.1 dX6_wrongMemberName_69 (lv_at hl 0 rfl) ?_
              refine lv_iconst (v := zI (-1)) C.1 C.2.1 dX6_wrongMemberName_71 (by decide) ?_
              refine y_icmp_eq (tgt := 78) C (a := ((q64 : Nat) : Int)) (b := -1) dX6_wrongMemberName_72 (by decide) (by omega) (fun h72 => ?_) (fun h72 => ?_)
              · exact False.elim (by first | omega | exact h72 rfl)
              · refine lv_iload C.1 C.2.1 dX6_wrongMemberName_75 (lv_at hl 0 rfl) ?_
                exact hret _ _ _ _ (zI ((q64 : Nat) : Int)) hS ⟨congrArg (fun x : Int => some (zV x)) (by rw [← he, show cnt - i = (cnt - (i + 1)) + 1 by omega, fst1_e (by unfold x9m gN; rw [if_pos h28, if_pos h50, ho64]; rfl)]; rfl), rfl⟩ rfl dX6_wrongMemberName_77
          · refine lv_iload C.1 C.2.1 dX6_wrongMemberName_53 (lv_at hl 0 rfl) ?_
            refine lv_iconst (v := zI 4) C.1 C.2.1 dX6_wrongMemberName_55 (by decide) ?_
            refine y_iaddN C (a := f i) (b := 4) dX6_wrongMemberName_56 ?_
            exact hret _ _ _ _ (zI (((f i) + 4 : Nat) : Int)) hS ⟨congrArg (fun x : Int => some (zV x)) (by rw [← he, show cnt - i = (cnt - (i + 1)) + 1 by omega, fst1_e (by unfold x9m gN; rw [if_pos h28, if_neg (by rw [h50]; decide)]; rfl)]; rfl), rfl⟩ rfl dX6_wrongMemberName_57
        · refine lv_iload C.1 C.2.1 dX6_wrongMemberName_31 (lv_at hl 0 rfl) ?_
          refine lv_iconst (v := zI 2) C.1 C.2.1 dX6_wrongMemberName_33 (by decide) ?_
          refine y_iaddN C (a := f i) (b := 2) dX6_wrongMemberName_34 ?_
          exact hret _ _ _ _ (zI (((f i) + 2 : Nat) : Int)) hS ⟨congrArg (fun x : Int => some (zV x)) (by rw [← he, show cnt - i = (cnt - (i + 1)) + 1 by omega, fst1_e (by unfold x9m gN; rw [if_neg (by rw [h28]; decide)]; rfl)]; rfl), rfl⟩ rfl dX6_wrongMemberName_35
  exact loop (cnt + 1) 0 ls _ hS (by omega) rfl hl

set_option maxHeartbeats 4000000 in
set_option maxRecDepth 20000 in
theorem c_wmN12 (l : Launch) (Z : zT) {H : Heap} {ad : Nat → Nat} {τ : mS} {X : List (Nat × va_E)} (hM : isC Z H ad τ X) {F : Nat → Nat} {n : Nat} (hB : cSrc τ F n) {tb mt : Nat → Nat} {cl nf nm fa last : Nat} (hL : cLay τ F tb cl nf nm mt fa last) (hp : pLay F n tb cl nf nm mt fa last) {cnt : Nat} {f : Nat → Nat} (hr : ∀ j, j < cnt → τ.2.1 12 j = zI (f j : Int)) (hc24 : cnt ≤ 24) (hf : ∀ j, j < cnt → f j + 8 ≤ n ∧ pAt F n (f j + 6)) : zP l Z yX6_wrongMemberName cX6_wrongMemberName 6 (some .int) (rmk 4) [.ref (ad 0), .ref (ad 12), zN cnt] H (zV (oI (fst1 (x9m F tb (U2 F 8) f) cnt 0))) := by
  have hn := hB.2.2.2
  have hP := hL.1
  obtain ⟨p1, p2, p3, p4, p5, p6, p7, p8, p9, p10, p11, p12⟩ := id hp
  obtain ⟨q1, q2, q3, q4, q5, q6, q7, q8, q9⟩ := id hL
  refine zM.introI (own := RX6) ⟨by decide, rfl⟩ (Nat.le_of_ble_eq_true rfl) ?_
  intro p e s m args below meth c Q ls hH C hl hret
  have hS : va_S (fun _ => False) s.heap H [] := by rw [hH]; exact va_S.rf
  have hl : lv_has ls 6 [(0, .ref (ad 0)), (1, .ref (ad 12)), (2, zN cnt)] := hl
  refine lv_iconst (v := zI 0) C.1 C.2.1 dX6_wrongMemberName_0 (by decide) ?_
  refine lv_istore_n (lv' := [(3, zN 0), (0, .ref (ad 0)), (1, .ref (ad 12)), (2, zN cnt)]) C.1 C.2.1 dX6_wrongMemberName_1 rfl hl (by decide) rfl (fun ls hl => ?_)
  have loop : ∀ (fu : Nat) (i : Nat) (ls : Array Slot) (locs : List Loc), va_S (fun _ => False) s.heap H locs → (i ≤ cnt ∧ cnt < i + fu) → (fst1 (x9m F tb (U2 F 8) f) (cnt - i) i = fst1 (x9m F tb (U2 F 8) f) cnt 0) → lv_has ls 6 [(3, zN i), (0, .ref (ad 0)), (1, .ref (ad 12)), (2, zN cnt)] → W p l e (rmk 4) s m args below meth c H locs 0 0 Q (F0 m 2 ls []) := by
    intro fu
    induction fu with
    | zero =>
      intro i ls locs hS hi he hl
      (exact absurd hi.2 (by omega))
    | succ fu ih_loop =>
      intro i ls locs hS hi he hl
      refine lv_iload_n C.1 C.2.1 dX6_wrongMemberName_2 rfl (lv_at hl 0 rfl) ?_
      refine lv_iload_n C.1 C.2.1 dX6_wrongMemberName_3 rfl (lv_at hl 3 rfl) ?_
      refine y_icmp_ge (tgt := 84) C (a := ((i : Nat) : Int)) (b := ((cnt : Nat) : Int)) dX6_wrongMemberName_4 (by decide) (by omega) (fun h4 => ?_) (fun h4 => ?_)
      · refine lv_iconst (v := zI (-1)) C.1 C.2.1 dX6_wrongMemberName_84 (by decide) ?_
        exact hret _ _ _ _ (zI (-1)) hS ⟨congrArg (fun x : Int => some (zV x)) (by rw [← he, show cnt - i = 0 by omega]; rfl), rfl⟩ rfl dX6_wrongMemberName_85
      · obtain ⟨hf1, hfa2⟩ := hf i (by omega)
        refine lv_aload_n C.1 C.2.1 dX6_wrongMemberName_7 rfl (lv_at hl 2 rfl) ?_
        refine lv_iload_n C.1 C.2.1 dX6_wrongMemberName_8 rfl (lv_at hl 0 rfl) ?_
        refine z_readSN C (As := [.ref (ad 12), zN i]) (rest := []) (c_at l Z (hM.row 12 (by decide)) (by decide) i rfl (by show _ < 24; omega)) ⟨⟨zw_11_13, zw_1_2⟩, zd_X11_at⟩ (by decide) zw_11_12 ⟨Nat.le_of_ble_eq_true rfl, Nat.le_of_ble_eq_true rfl⟩ ⟨rfl, rfl⟩ rfl hl.1 rfl (Nat.le_of_ble_eq_true rfl) dX6_wrongMemberName_9 ⟨Nat.zero_le _, Nat.zero_le _⟩ hS (fun locs hS => ?_)
        refine z_re (y := zI ((f i : Nat) : Int)) (hr i (by omega)) ?_
        refine lv_istore (lv' := [(4, zN (f i)), (3, zN i), (0, .ref (ad 0)), (1, .ref (ad 12)), (2, zN cnt)]) C.1 C.2.1 dX6_wrongMemberName_12 hl (by decide) rfl (fun ls hl => ?_)
        refine lv_aload_n C.1 C.2.1 dX6_wrongMemberName_14 rfl (lv_at hl 2 rfl) ?_
        refine z_get C (v := .ref (ad 3)) hM.img rfl bi_wsX20 1 (by decide) zw_14_20 rfl rfl dX6_wrongMemberName_15 ?_
        refine lv_iconst (v := zI 1) C.1 C.2.1 dX6_wrongMemberName_18 (by decide) ?_
        refine lv_aload_n C.1 C.2.1 dX6_wrongMemberName_19 rfl (lv_at hl 2 rfl) ?_
        refine lv_iload C.1 C.2.1 dX6_wrongMemberName_20 (lv_at hl 0 rfl) ?_
        refine z_readV C (As := [zN (f i)]) (rest := [zN 1, .ref (ad 3)]) (c_X2_nameOf l Z hM hB (f i) rfl (by omega)) hM.img rfl ⟨⟨zw_15_7, zw_1_18, zw_15_4⟩, zd_X2_nameOf⟩ zw_15_5 zw_15_6 ⟨Nat.le_of_ble_eq_true rfl, Nat.le_of_ble_eq_true rfl⟩ ⟨rfl, rfl⟩ rfl hl.1 rfl (Nat.le_of_ble_eq_true rfl) dX6_wrongMemberName_22 ⟨Nat.zero_le _, Nat.zero_le _⟩ hS (fun locs hS => ?_)
        have hnt22 := U2_lt hB.1 ((f i) + 2)
        refine z_readV C (As := [zN 1, zN (U2 F ((f i) + 2))]) (rest := []) (c_X7_is l Z hM hB hP 1 (by decide) (U2 F ((f i) + 2)) rfl (by omega)) hM.pol rfl ⟨⟨zw_11_11, zw_2_19, zw_13_22⟩, zd_X7_is⟩ zw_11_9 zw_11_10 ⟨Nat.le_of_ble_eq_true rfl, Nat.le_of_ble_eq_true rfl⟩ ⟨rfl, rfl⟩ rfl hl.1 rfl (Nat.le_of_ble_eq_true rfl) dX6_wrongMemberName_25 ⟨Nat.zero_le _, Nat.zero_le _⟩ hS (fun locs hS => ?_)
        refine y_ifb_ne (tgt := 36) C dX6_wrongMemberName_28 (by decide) (fun h28 => ?_) (fun h28 => ?_)
        · refine lv_aload_n C.1 C.2.1 dX6_wrongMemberName_36 rfl (lv_at hl 2 rfl) ?_
          refine z_get C (v := .ref (ad 3)) hM.img rfl bi_wsX20 1 (by decide) zw_14_20 rfl rfl dX6_wrongMemberName_37 ?_
          refine lv_iconst (v := zI 1) C.1 C.2.1 dX6_wrongMemberName_40 (by decide) ?_
          refine lv_aload_n C.1 C.2.1 dX6_wrongMemberName_41 rfl (lv_at hl 2 rfl) ?_
          refine lv_iload C.1 C.2.1 dX6_wrongMemberName_42 (lv_at hl 0 rfl) ?_
          refine z_readV C (As := [zN (f i)]) (rest := [zN 1, .ref (ad 3)]) (c_X2_typeOf l Z hM hB (f i) rfl (by omega)) hM.img rfl ⟨⟨zw_15_12, zw_1_18, zw_15_9⟩, zd_X2_typeOf⟩ zw_15_10 zw_15_11 ⟨Nat.le_of_ble_eq_true rfl, Nat.le_of_ble_eq_true rfl⟩ ⟨rfl, rfl⟩ rfl hl.1 rfl (Nat.le_of_ble_eq_true rfl) dX6_wrongMemberName_44 ⟨Nat.zero_le _, Nat.zero_le _⟩ hS (fun locs hS => ?_)
          have hnt44 := U2_lt hB.1 ((f i) + 4)
          refine z_readV C (As := [zN 1, zN (U2 F ((f i) + 4))]) (rest := []) (c_X7_is l Z hM hB hP 1 (by decide) (U2 F ((f i) + 4)) rfl (by omega)) hM.pol rfl ⟨⟨zw_11_11, zw_2_19, zw_13_22⟩, zd_X7_is⟩ zw_11_9 zw_11_10 ⟨Nat.le_of_ble_eq_true rfl, Nat.le_of_ble_eq_true rfl⟩ ⟨rfl, rfl⟩ rfl hl.1 rfl (Nat.le_of_ble_eq_true rfl) dX6_wrongMemberName_47 ⟨Nat.zero_le _, Nat.zero_le _⟩ hS (fun locs hS => ?_)
          refine y_ifb_ne (tgt := 58) C dX6_wrongMemberName_50 (by decide) (fun h50 => ?_) (fun h50 => ?_)
          · refine lv_aload_n C.1 C.2.1 dX6_wrongMemberName_58 rfl (lv_at hl 2 rfl) ?_
            refine lv_iload C.1 C.2.1 dX6_wrongMemberName_59 (lv_at hl 0 rfl) ?_
            refine lv_bipush (v := zI 6) C.1 C.2.1 dX6_wrongMemberName_61 (by decide) ?_
            refine y_iaddN C (a := f i) (b := 6) dX6_wrongMemberName_63 ?_
            refine z_readS C (As := [.ref (ad 0), zN ((f i) + 6)]) (rest := []) (c_X6_wrongAttributeName l Z hM hB hL hp (a := (f i) + 6) hfa2) ⟨⟨zw_15_15, zw_13_10, zw_15_13⟩, zd_X6_wrongAttributeName⟩ zw_15_14 ⟨Nat.le_of_ble_eq_true rfl, Nat.le_of_ble_eq_true rfl⟩ ⟨rfl, rfl⟩ rfl hl.1 rfl (Nat.le_of_ble_eq_true rfl) dX6_wrongMemberName_64 ⟨Nat.zero_le _, Nat.zero_le _⟩ hS (fun locs hS => ?_)
            rcases oI_c (x9a F tb (U2 F 8) ((f i) + 6)) with ho64 | ⟨q64, ho64⟩
            · refine z_re (y := zI (-1)) (by rw [ho64]; rfl) ?_
              refine lv_istore (lv' := [(5, zV (-1)), (4, zN (f i)), (3, zN i), (0, .ref (ad 0)), (1, .ref (ad 12)), (2, zN cnt)]) C.1 C.2.1 dX6_wrongMemberName_67 hl (by decide) rfl (fun ls hl => ?_)
              refine lv_iload C.1 C.2.1 dX6_wrongMemberName_69 (lv_at hl 0 rfl) ?_
              refine lv_iconst (v := zI (-1)) C.1 C.2.1 dX6_wrongMemberName_71 (by decide) ?_
              refine y_icmp_eq (tgt := 78) C (a := -1) (b := -1) dX6_wrongMemberName_72 (by decide) (by omega) (fun h72 => ?_) (fun h72 => ?_)
              · refine lv_iinc (v := zI ((i + 1 : Nat) : Int)) (lv' := [(3, zN (i + 1)), (5, zV (-1)), (4, zN (f i)), (0, .ref (ad 0)), (1, .ref (ad 12)), (2, zN cnt)]) C.1 C.2.1 dX6_wrongMemberName_78 hl (k := 2) rfl (zI_add _ _) (by decide) rfl (fun ls hl => ?_)
                refine lv_goto (tgt := 2) C.1 C.2.1 dX6_wrongMemberName_81 (by decide) ?_
                exact ih_loop (i + 1) ls _ hS (by omega) (by rw [← he, show cnt - i = (cnt - (i + 1)) + 1 by omega, fst1_s (by unfold x9m gN; rw [if_pos h28, if_pos h50, ho64]; rfl)]) (lv_sub hl [0, 3, 4, 5] rfl)
              · exact False.elim (by first | omega | exact h72 rfl)
            · refine z_re (y := zI ((q64 : Nat) : Int)) (by rw [ho64]; rfl) ?_
              have hob64 : q64 ≤ n := x9a_b hfa2 ho64
              refine lv_istore (lv' := [(5, zN q64), (4, zN (f i)), (3, zN i), (0, .ref (ad 0)), (1, .ref (ad 12)), (2, zN cnt)]) C.1 C.2.1 dX6_wrongMemberName_67 hl (by decide) rfl (fun ls hl => ?_)
              refine lv_iload C.1 C.2.1 dX6_wrongMemberName_69 (lv_at hl 0 rfl) ?_
              refine lv_iconst (v := zI (-1)) C.1 C.2.1 dX6_wrongMemberName_71 (by decide) ?_
              refine y_icmp_eq (tgt := 78) C (a := ((q64 : Nat) : Int)) (b := -1) dX6_wrongMemberName_72 (by decide) (by omega) (fun h72 => ?_) (fun h72 => ?_)
              · exact False.elim (by first | omega | exact h72 rfl)
              · refine lv_iload C.1 C.2.1 dX6_wrongMemberName_75 (lv_at hl 0 rfl) ?_
                exact hret _ _ _ _ (zI ((q64 : Nat) : Int)) hS ⟨congrArg (fun x : Int => some (zV x)) (by rw [← he, show cnt - i = (cnt - (i + 1)) + 1 by omega, fst1_e (by unfold x9m gN; rw [if_pos h28, if_pos h50, ho64]; rfl)]; rfl), rfl⟩ rfl dX6_wrongMemberName_77
          · refine lv_iload C.1 C.2.1 dX6_wrongMemberName_53 (lv_at hl 0 rfl) ?_
            refine lv_iconst (v := zI 4) C.1 C.2.1 dX6_wrongMemberName_55 (by decide) ?_
            refine y_iaddN C (a := f i) (b := 4) dX6_wrongMemberName_56 ?_
            exact hret _ _ _ _ (zI (((f i) + 4 : Nat) : Int)) hS ⟨congrArg (fun x : Int => some (zV x)) (by rw [← he, show cnt - i = (cnt - (i + 1)) + 1 by omega, fst1_e (by unfold x9m gN; rw [if_pos h28, if_neg (by rw [h50]; decide)]; rfl)]; rfl), rfl⟩ rfl dX6_wrongMemberName_57
        · refine lv_iload C.1 C.2.1 dX6_wrongMemberName_31 (lv_at hl 0 rfl) ?_
          refine lv_iconst (v := zI 2) C.1 C.2.1 dX6_wrongMemberName_33 (by decide) ?_
          refine y_iaddN C (a := f i) (b := 2) dX6_wrongMemberName_34 ?_
          exact hret _ _ _ _ (zI (((f i) + 2 : Nat) : Int)) hS ⟨congrArg (fun x : Int => some (zV x)) (by rw [← he, show cnt - i = (cnt - (i + 1)) + 1 by omega, fst1_e (by unfold x9m gN; rw [if_neg (by rw [h28]; decide)]; rfl)]; rfl), rfl⟩ rfl dX6_wrongMemberName_35
  exact loop (cnt + 1) 0 ls _ hS (by omega) rfl hl

set_option maxHeartbeats 4000000 in
set_option maxRecDepth 20000 in
theorem c_X6_wrongName (l : Launch) (Z : zT) {H : Heap} {ad : Nat → Nat} {τ : mS} {X : List (Nat × va_E)} (hM : isC Z H ad τ X) {F : Nat → Nat} {n : Nat} (hB : cSrc τ F n) {tb mt : Nat → Nat} {cl nf nm fa last : Nat} (hL : cLay τ F tb cl nf nm mt fa last) (hp : pLay F n tb cl nf nm mt fa last) : zP l Z yX6_wrongName cX6_wrongName 2 (some .int) (rmk 5) [.ref (ad 0)] H (zV (oI (x9 F tb (U2 F 8) mt (nf + nm) fa))) := by
  have hn := hB.2.2.2
  have hP := hL.1
  obtain ⟨p1, p2, p3, p4, p5, p6, p7, p8, p9, p10, p11, p12⟩ := id hp
  obtain ⟨q1, q2, q3, q4, q5, q6, q7, q8, q9⟩ := id hL
  refine zM.introI (own := RX6) ⟨by decide, rfl⟩ (Nat.le_of_ble_eq_true rfl) ?_
  intro p e s m args below meth c Q ls hH C hl hret
  have hS : va_S (fun _ => False) s.heap H [] := by rw [hH]; exact va_S.rf
  have hl : lv_has ls 2 [(0, .ref (ad 0))] := hl
  refine lv_aload_n C.1 C.2.1 dX6_wrongName_0 rfl (lv_at hl 0 rfl) ?_
  refine lv_aload_n C.1 C.2.1 dX6_wrongName_1 rfl (lv_at hl 0 rfl) ?_
  refine z_get C (v := .ref (ad 11)) hM.img rfl bi_wsX20 2 (by decide) zw_14_9 rfl rfl dX6_wrongName_2 ?_
  refine lv_aload_n C.1 C.2.1 dX6_wrongName_5 rfl (lv_at hl 0 rfl) ?_
  refine z_get C (v := .int (τ.1 2)) hM.img rfl bi_wsX20 6 (by decide) zw_14_10 rfl rfl dX6_wrongName_6 ?_
  refine z_re (y := zI ((nf : Nat) : Int)) hL.2.2.1 ?_
  refine z_readS C (As := [.ref (ad 0), .ref (ad 11), zN nf]) (rest := []) (c_wmN11 l Z hM hB hL hp (f := mt) q8 (by omega) (fun j hj => hp.m1 hj)) ⟨⟨zw_15_3, zw_13_10, zw_15_1⟩, zd_X6_wrongMemberName⟩ zw_15_2 ⟨Nat.le_of_ble_eq_true rfl, Nat.le_of_ble_eq_true rfl⟩ ⟨rfl, rfl⟩ rfl hl.1 rfl (Nat.le_of_ble_eq_true rfl) dX6_wrongName_9 ⟨Nat.zero_le _, Nat.zero_le _⟩ hS (fun locs hS => ?_)
  rcases oI_c (fst1 (x9m F tb (U2 F 8) mt) nf 0) with ho11 | ⟨q11, ho11⟩
  · refine z_re (y := zI (-1)) (by rw [ho11]; rfl) ?_
    refine lv_istore_n (lv' := [(1, zV (-1)), (0, .ref (ad 0))]) C.1 C.2.1 dX6_wrongName_12 rfl hl (by decide) rfl (fun ls hl => ?_)
    refine lv_iload_n C.1 C.2.1 dX6_wrongName_13 rfl (lv_at hl 0 rfl) ?_
    refine lv_iconst (v := zI (-1)) C.1 C.2.1 dX6_wrongName_14 (by decide) ?_
    refine y_icmp_ne (tgt := 31) C (a := -1) (b := -1) dX6_wrongName_15 (by decide) (by omega) (fun h15 => ?_) (fun h15 => ?_)
    · exact False.elim (by first | omega | exact h15 rfl)
    · refine lv_aload_n C.1 C.2.1 dX6_wrongName_18 rfl (lv_at hl 1 rfl) ?_
      refine lv_aload_n C.1 C.2.1 dX6_wrongName_19 rfl (lv_at hl 1 rfl) ?_
      refine z_get C (v := .ref (ad 12)) hM.img rfl bi_wsX20 3 (by decide) zw_14_11 rfl rfl dX6_wrongName_20 ?_
      refine lv_aload_n C.1 C.2.1 dX6_wrongName_23 rfl (lv_at hl 1 rfl) ?_
      refine z_get C (v := .int (τ.1 3)) hM.img rfl bi_wsX20 7 (by decide) zw_14_12 rfl rfl dX6_wrongName_24 ?_
      refine z_re (y := zI ((nm : Nat) : Int)) hL.2.2.2.1 ?_
      refine z_readS C (As := [.ref (ad 0), .ref (ad 12), zN nm]) (rest := []) (c_wmN12 l Z hM hB hL hp (f := (fun j => mt (nf + j))) q9 (by omega) (fun j hj => hp.m2 hj)) ⟨⟨zw_15_3, zw_13_10, zw_15_1⟩, zd_X6_wrongMemberName⟩ zw_15_2 ⟨Nat.le_of_ble_eq_true rfl, Nat.le_of_ble_eq_true rfl⟩ ⟨rfl, rfl⟩ rfl hl.1 rfl (Nat.le_of_ble_eq_true rfl) dX6_wrongName_27 ⟨Nat.zero_le _, Nat.zero_le _⟩ hS (fun locs hS => ?_)
      rcases oI_c (fst1 (x9m F tb (U2 F 8) (fun j => mt (nf + j))) nm 0) with ho12 | ⟨q12, ho12⟩
      · refine z_re (y := zI (-1)) (by rw [ho12]; rfl) ?_
        refine lv_istore_n (lv' := [(1, zV (-1)), (0, .ref (ad 0))]) C.1 C.2.1 dX6_wrongName_30 rfl hl (by decide) rfl (fun ls hl => ?_)
        refine lv_iload_n C.1 C.2.1 dX6_wrongName_31 rfl (lv_at hl 0 rfl) ?_
        refine lv_iconst (v := zI (-1)) C.1 C.2.1 dX6_wrongName_32 (by decide) ?_
        refine y_icmp_eq (tgt := 40) C (a := -1) (b := -1) dX6_wrongName_33 (by decide) (by omega) (fun h33 => ?_) (fun h33 => ?_)
        · refine lv_aload_n C.1 C.2.1 dX6_wrongName_40 rfl (lv_at hl 1 rfl) ?_
          refine lv_aload_n C.1 C.2.1 dX6_wrongName_41 rfl (lv_at hl 1 rfl) ?_
          refine z_get C (v := .int (τ.1 5)) hM.img rfl bi_wsX20 9 (by decide) zw_15_0 rfl rfl dX6_wrongName_42 ?_
          refine z_re (y := zI ((fa : Nat) : Int)) hL.2.2.2.2.2.1 ?_
          refine z_readS C (As := [.ref (ad 0), zN fa]) (rest := []) (c_X6_wrongAttributeName l Z hM hB hL hp p11) ⟨⟨zw_15_15, zw_13_10, zw_15_13⟩, zd_X6_wrongAttributeName⟩ zw_15_14 ⟨Nat.le_of_ble_eq_true rfl, Nat.le_of_ble_eq_true rfl⟩ ⟨rfl, rfl⟩ rfl hl.1 rfl (Nat.le_of_ble_eq_true rfl) dX6_wrongName_45 ⟨Nat.zero_le _, Nat.zero_le _⟩ hS (fun locs hS => ?_)
          exact hret _ _ _ _ (zI (oI (x9a F tb (U2 F 8) fa))) hS ⟨congrArg (fun x : Int => some (zV x)) (by unfold x9; rw [fst1_add, Nat.zero_add, show fst1 (x9m F tb (U2 F 8) mt) nm nf = fst1 (x9m F tb (U2 F 8) (fun j => mt (nf + j))) nm 0 from fst1_sh (k := nf) nm 0, ho11, ho12]; rfl), rfl⟩ rfl dX6_wrongName_48
        · exact False.elim (by first | omega | exact h33 rfl)
      · refine z_re (y := zI ((q12 : Nat) : Int)) (by rw [ho12]; rfl) ?_
        have hob12 : q12 ≤ n := x9m_b (fun j hj => hp.m2 hj) ho12
        refine lv_istore_n (lv' := [(1, zN q12), (0, .ref (ad 0))]) C.1 C.2.1 dX6_wrongName_30 rfl hl (by decide) rfl (fun ls hl => ?_)
        refine lv_iload_n C.1 C.2.1 dX6_wrongName_31 rfl (lv_at hl 0 rfl) ?_
        refine lv_iconst (v := zI (-1)) C.1 C.2.1 dX6_wrongName_32 (by decide) ?_
        refine y_icmp_eq (tgt := 40) C (a := ((q12 : Nat) : Int)) (b := -1) dX6_wrongName_33 (by decide) (by omega) (fun h33 => ?_) (fun h33 => ?_)
        · exact False.elim (by first | omega | exact h33 rfl)
        · refine lv_iload_n C.1 C.2.1 dX6_wrongName_36 rfl (lv_at hl 0 rfl) ?_
          refine lv_goto (tgt := 48) C.1 C.2.1 dX6_wrongName_37 (by decide) ?_
          exact hret _ _ _ _ (zI ((q12 : Nat) : Int)) hS ⟨congrArg (fun x : Int => some (zV x)) (by unfold x9; rw [fst1_add, Nat.zero_add, show fst1 (x9m F tb (U2 F 8) mt) nm nf = fst1 (x9m F tb (U2 F 8) (fun j => mt (nf + j))) nm 0 from fst1_sh (k := nf) nm 0, ho11, ho12]; rfl), rfl⟩ rfl dX6_wrongName_48
  · refine z_re (y := zI ((q11 : Nat) : Int)) (by rw [ho11]; rfl) ?_
    have hob11 : q11 ≤ n := x9m_b (fun j hj => hp.m1 hj) ho11
    refine lv_istore_n (lv' := [(1, zN q11), (0, .ref (ad 0))]) C.1 C.2.1 dX6_wrongName_12 rfl hl (by decide) rfl (fun ls hl => ?_)
    refine lv_iload_n C.1 C.2.1 dX6_wrongName_13 rfl (lv_at hl 0 rfl) ?_
    refine lv_iconst (v := zI (-1)) C.1 C.2.1 dX6_wrongName_14 (by decide) ?_
    refine y_icmp_ne (tgt := 31) C (a := ((q11 : Nat) : Int)) (b := -1) dX6_wrongName_15 (by decide) (by omega) (fun h15 => ?_) (fun h15 => ?_)
    · refine lv_iload_n C.1 C.2.1 dX6_wrongName_31 rfl (lv_at hl 0 rfl) ?_
      refine lv_iconst (v := zI (-1)) C.1 C.2.1 dX6_wrongName_32 (by decide) ?_
      refine y_icmp_eq (tgt := 40) C (a := ((q11 : Nat) : Int)) (b := -1) dX6_wrongName_33 (by decide) (by omega) (fun h33 => ?_) (fun h33 => ?_)
      · exact False.elim (by first | omega | exact h33 rfl)
      · refine lv_iload_n C.1 C.2.1 dX6_wrongName_36 rfl (lv_at hl 0 rfl) ?_
        refine lv_goto (tgt := 48) C.1 C.2.1 dX6_wrongName_37 (by decide) ?_
        exact hret _ _ _ _ (zI ((q11 : Nat) : Int)) hS ⟨congrArg (fun x : Int => some (zV x)) (by unfold x9; rw [fst1_add, Nat.zero_add, show fst1 (x9m F tb (U2 F 8) mt) nm nf = fst1 (x9m F tb (U2 F 8) (fun j => mt (nf + j))) nm 0 from fst1_sh (k := nf) nm 0, ho11]; rfl), rfl⟩ rfl dX6_wrongName_48
    · exact False.elim (by first | omega | exact h15 rfl)

theorem kdW_lt (F : Nat → Nat) (fp ln : Nat) : kdW F fp ln 0 ≤ 4 := by unfold kdW; split; exact (kd_ty F fp ln 0).2.2.1; omega
theorem rsV_lt (F : Nat → Nat) (fp ln : Nat) : rsV F fp ln ≤ 7 := by
  unfold rsV kdW
  have := (kd_ty F fp ln ((ppI F fp ln).1 + 1)).2.2.1
  (repeat' split) <;> omega

set_option maxHeartbeats 4000000 in
set_option maxRecDepth 20000 in
theorem c_X6_pairSuits (l : Launch) (Z : zT) {H : Heap} {ad : Nat → Nat} {τ : mS} {X : List (Nat × va_E)} (hM : isC Z H ad τ X) {F : Nat → Nat} {n : Nat} (hB : cSrc τ F n) {tb : Nat → Nat} {pc : Nat} (hP : cPl τ F tb pc) (hpp : pPl F n tb pc) (hq : lnQ F tb τ) (hpc8 : pc = U2 F 8) (hx6 : x6 F tb pc = none) (k : Nat) (hk : 1 ≤ k ∧ k < pc) : zP l Z yX6_pairSuits cX6_pairSuits 2 (some .boolean) (rmk 3) [.ref (ad 3), zN k] H (zV (bI ((g10 F tb k).isNone))) := by
  have hn := hB.2.2.2
  have hp1 := hP.2.1
  refine zM.introI (own := RX6) ⟨by decide, rfl⟩ (Nat.le_of_ble_eq_true rfl) ?_
  intro p e s m args below meth c Q ls hH C hl hret
  have hS : va_S (fun _ => False) s.heap H [] := by rw [hH]; exact va_S.rf
  have hl : lv_has ls 2 [(0, .ref (ad 3)), (1, zN k)] := hl
  refine lv_aload_n C.1 C.2.1 dX6_pairSuits_0 rfl (lv_at hl 0 rfl) ?_
  refine lv_bipush (v := zI 9) C.1 C.2.1 dX6_pairSuits_1 (by decide) ?_
  refine lv_iload_n C.1 C.2.1 dX6_pairSuits_3 rfl (lv_at hl 1 rfl) ?_
  refine z_readV C (As := [zN 9, zN k]) (rest := []) (c_X7_is l Z hM hB hP 9 (by decide) k rfl (by omega)) hM.pol rfl ⟨⟨zw_11_11, zw_2_19, zw_13_22⟩, zd_X7_is⟩ zw_11_9 zw_11_10 ⟨Nat.le_of_ble_eq_true rfl, Nat.le_of_ble_eq_true rfl⟩ ⟨rfl, rfl⟩ rfl hl.1 rfl (Nat.le_of_ble_eq_true rfl) dX6_pairSuits_4 ⟨Nat.zero_le _, Nat.zero_le _⟩ hS (fun locs hS => ?_)
  refine y_ifb_eq (tgt := 37) C dX6_pairSuits_7 (by decide) (fun h7 => ?_) (fun h7 => ?_)
  · refine lv_aload_n C.1 C.2.1 dX6_pairSuits_37 rfl (lv_at hl 0 rfl) ?_
    refine lv_bipush (v := zI 10) C.1 C.2.1 dX6_pairSuits_38 (by decide) ?_
    refine lv_iload_n C.1 C.2.1 dX6_pairSuits_40 rfl (lv_at hl 1 rfl) ?_
    refine z_readV C (As := [zN 10, zN k]) (rest := []) (c_X7_is l Z hM hB hP 10 (by decide) k rfl (by omega)) hM.pol rfl ⟨⟨zw_11_11, zw_2_19, zw_13_22⟩, zd_X7_is⟩ zw_11_9 zw_11_10 ⟨Nat.le_of_ble_eq_true rfl, Nat.le_of_ble_eq_true rfl⟩ ⟨rfl, rfl⟩ rfl hl.1 rfl (Nat.le_of_ble_eq_true rfl) dX6_pairSuits_41 ⟨Nat.zero_le _, Nat.zero_le _⟩ hS (fun locs hS => ?_)
    refine y_ifb_eq (tgt := 74) C dX6_pairSuits_44 (by decide) (fun h44 => ?_) (fun h44 => ?_)
    · refine lv_iconst (v := zI 1) C.1 C.2.1 dX6_pairSuits_74 (by decide) ?_
      exact hret _ _ _ _ (zI 1) hS ⟨congrArg (fun x : Int => some (zV x)) (by unfold g10; rw [if_neg (fun z => isE_no h7 ⟨hk.1, hk.2, z⟩), if_neg (fun z => isE_no h44 ⟨hk.1, hk.2, z⟩)]; rfl), rfl⟩ rfl dX6_pairSuits_75
    · have hz7 := names10 hx6 ⟨(isE_t h44).1, (isE_t h44).2.1⟩ (Or.inr (isE_t h44).2.2)
      obtain ⟨z1, z2, z3, z4⟩ := hz7
      have ht5 := hpp.t5 (Or.inr (Or.inl (isE_t h44).2.2))
      have ht6 := hpp.t5 (Or.inr (Or.inr z2.2.2))
      have hkw := rsV_lt F (nP tb (e2 F tb (e2 F tb k))) (nL F tb (e2 F tb (e2 F tb k)))
      have hty : rsV F (nP tb (e2 F tb (e2 F tb k))) (nL F tb (e2 F tb (e2 F tb k))) ≠ 0 ↔ 0 ≤ ppN F tb (e2 F tb (e2 F tb k)) := (rsV_pp F (nP tb (e2 F tb (e2 F tb k))) (nL F tb (e2 F tb (e2 F tb k)))).1
      refine lv_aload_n C.1 C.2.1 dX6_pairSuits_47 rfl (lv_at hl 0 rfl) ?_
      refine z_get C (v := .ref (ad 8)) hM.pol rfl bi_wsX70 5 (by decide) zw_15_21 rfl rfl dX6_pairSuits_48 ?_
      refine lv_aload_n C.1 C.2.1 dX6_pairSuits_51 rfl (lv_at hl 0 rfl) ?_
      refine lv_aload_n C.1 C.2.1 dX6_pairSuits_52 rfl (lv_at hl 0 rfl) ?_
      refine lv_iload_n C.1 C.2.1 dX6_pairSuits_53 rfl (lv_at hl 1 rfl) ?_
      refine lv_iconst (v := zI 1) C.1 C.2.1 dX6_pairSuits_54 (by decide) ?_
      refine z_readV C (As := [zN k, zN 1]) (rest := [.ref (ad 3), .ref (ad 8)]) (c_part1 l Z hM hB hP k (by omega) (by omega)) hM.pol rfl ⟨⟨zw_13_21, zw_2_19, zw_13_18⟩, zd_X7_part⟩ zw_13_19 zw_13_20 ⟨Nat.le_of_ble_eq_true rfl, Nat.le_of_ble_eq_true rfl⟩ ⟨rfl, rfl⟩ rfl hl.1 rfl (Nat.le_of_ble_eq_true rfl) dX6_pairSuits_55 ⟨Nat.zero_le _, Nat.zero_le _⟩ hS (fun locs hS => ?_)
      have hel55 := e2_lt hB.1 tb k
      refine lv_iconst (v := zI 1) C.1 C.2.1 dX6_pairSuits_58 (by decide) ?_
      refine z_readV C (As := [zN (e2 F tb k), zN 1]) (rest := [.ref (ad 8)]) (c_part1 l Z hM hB hP (e2 F tb k) (by omega) (by omega)) hM.pol rfl ⟨⟨zw_13_21, zw_2_19, zw_13_18⟩, zd_X7_part⟩ zw_13_19 zw_13_20 ⟨Nat.le_of_ble_eq_true rfl, Nat.le_of_ble_eq_true rfl⟩ ⟨rfl, rfl⟩ rfl hl.1 rfl (Nat.le_of_ble_eq_true rfl) dX6_pairSuits_59 ⟨Nat.zero_le _, Nat.zero_le _⟩ hS (fun locs hS => ?_)
      have hel59 := e2_lt hB.1 tb (e2 F tb k)
      refine z_readSN C (As := [.ref (ad 8), zN (e2 F tb (e2 F tb k))]) (rest := []) (c_at l Z (hM.row 8 (by decide)) (by decide) (e2 F tb (e2 F tb k)) rfl (by show _ < 500; omega)) ⟨⟨zw_11_13, zw_1_2⟩, zd_X11_at⟩ (by decide) zw_11_12 ⟨Nat.le_of_ble_eq_true rfl, Nat.le_of_ble_eq_true rfl⟩ ⟨rfl, rfl⟩ rfl hl.1 rfl (Nat.le_of_ble_eq_true rfl) dX6_pairSuits_62 ⟨Nat.zero_le _, Nat.zero_le _⟩ hS (fun locs hS => ?_)
      refine z_re (y := zI ((rsV F (nP tb (e2 F tb (e2 F tb k))) (nL F tb (e2 F tb (e2 F tb k))) : Nat) : Int)) ((hq (e2 F tb (e2 F tb k)) (by omega) (by omega) (by omega)).2.1) ?_
      refine y_if_eq (tgt := 72) C (a := ((rsV F (nP tb (e2 F tb (e2 F tb k))) (nL F tb (e2 F tb (e2 F tb k))) : Nat) : Int)) dX6_pairSuits_65 (by decide) (by omega) (fun h65 => ?_) (fun h65 => ?_)
      · refine lv_iconst (v := zI 0) C.1 C.2.1 dX6_pairSuits_72 (by decide) ?_
        exact hret _ _ _ _ (zI 0) hS ⟨congrArg (fun x : Int => some (zV x)) (by unfold g10; rw [if_neg (by have := (isE_t h44).2.2; omega), if_pos (isE_t h44).2.2, if_neg (fun z => absurd (hty.mpr z) (by omega))]; rfl), rfl⟩ rfl dX6_pairSuits_73
      · refine lv_iconst (v := zI 1) C.1 C.2.1 dX6_pairSuits_68 (by decide) ?_
        refine lv_goto (tgt := 73) C.1 C.2.1 dX6_pairSuits_69 (by decide) ?_
        exact hret _ _ _ _ (zI 1) hS ⟨congrArg (fun x : Int => some (zV x)) (by unfold g10; rw [if_neg (by have := (isE_t h44).2.2; omega), if_pos (isE_t h44).2.2, if_pos (hty.mp (by omega))]; rfl), rfl⟩ rfl dX6_pairSuits_73
  · have hz7 := names10 hx6 ⟨(isE_t h7).1, (isE_t h7).2.1⟩ (Or.inl (isE_t h7).2.2)
    obtain ⟨z1, z2, z3, z4⟩ := hz7
    have ht5 := hpp.t5 (Or.inl (isE_t h7).2.2)
    have ht6 := hpp.t5 (Or.inr (Or.inr z2.2.2))
    have hkw := kdW_lt F (nP tb (e2 F tb (e2 F tb k))) (nL F tb (e2 F tb (e2 F tb k)))
    have hty : kdW F (nP tb (e2 F tb (e2 F tb k))) (nL F tb (e2 F tb (e2 F tb k))) 0 ≠ 0 ↔ tyN F tb (e2 F tb (e2 F tb k)) = true := kdW_ty F (nP tb (e2 F tb (e2 F tb k))) (nL F tb (e2 F tb (e2 F tb k)))
    refine lv_aload_n C.1 C.2.1 dX6_pairSuits_10 rfl (lv_at hl 0 rfl) ?_
    refine z_get C (v := .ref (ad 7)) hM.pol rfl bi_wsX70 4 (by decide) zw_15_20 rfl rfl dX6_pairSuits_11 ?_
    refine lv_aload_n C.1 C.2.1 dX6_pairSuits_14 rfl (lv_at hl 0 rfl) ?_
    refine lv_aload_n C.1 C.2.1 dX6_pairSuits_15 rfl (lv_at hl 0 rfl) ?_
    refine lv_iload_n C.1 C.2.1 dX6_pairSuits_16 rfl (lv_at hl 1 rfl) ?_
    refine lv_iconst (v := zI 1) C.1 C.2.1 dX6_pairSuits_17 (by decide) ?_
    refine z_readV C (As := [zN k, zN 1]) (rest := [.ref (ad 3), .ref (ad 7)]) (c_part1 l Z hM hB hP k (by omega) (by omega)) hM.pol rfl ⟨⟨zw_13_21, zw_2_19, zw_13_18⟩, zd_X7_part⟩ zw_13_19 zw_13_20 ⟨Nat.le_of_ble_eq_true rfl, Nat.le_of_ble_eq_true rfl⟩ ⟨rfl, rfl⟩ rfl hl.1 rfl (Nat.le_of_ble_eq_true rfl) dX6_pairSuits_18 ⟨Nat.zero_le _, Nat.zero_le _⟩ hS (fun locs hS => ?_)
    have hel18 := e2_lt hB.1 tb k
    refine lv_iconst (v := zI 1) C.1 C.2.1 dX6_pairSuits_21 (by decide) ?_
    refine z_readV C (As := [zN (e2 F tb k), zN 1]) (rest := [.ref (ad 7)]) (c_part1 l Z hM hB hP (e2 F tb k) (by omega) (by omega)) hM.pol rfl ⟨⟨zw_13_21, zw_2_19, zw_13_18⟩, zd_X7_part⟩ zw_13_19 zw_13_20 ⟨Nat.le_of_ble_eq_true rfl, Nat.le_of_ble_eq_true rfl⟩ ⟨rfl, rfl⟩ rfl hl.1 rfl (Nat.le_of_ble_eq_true rfl) dX6_pairSuits_22 ⟨Nat.zero_le _, Nat.zero_le _⟩ hS (fun locs hS => ?_)
    have hel22 := e2_lt hB.1 tb (e2 F tb k)
    refine z_readSN C (As := [.ref (ad 7), zN (e2 F tb (e2 F tb k))]) (rest := []) (c_at l Z (hM.row 7 (by decide)) (by decide) (e2 F tb (e2 F tb k)) rfl (by show _ < 500; omega)) ⟨⟨zw_11_13, zw_1_2⟩, zd_X11_at⟩ (by decide) zw_11_12 ⟨Nat.le_of_ble_eq_true rfl, Nat.le_of_ble_eq_true rfl⟩ ⟨rfl, rfl⟩ rfl hl.1 rfl (Nat.le_of_ble_eq_true rfl) dX6_pairSuits_25 ⟨Nat.zero_le _, Nat.zero_le _⟩ hS (fun locs hS => ?_)
    refine z_re (y := zI ((kdW F (nP tb (e2 F tb (e2 F tb k))) (nL F tb (e2 F tb (e2 F tb k))) 0 : Nat) : Int)) ((hq (e2 F tb (e2 F tb k)) (by omega) (by omega) (by omega)).1) ?_
    refine y_if_eq (tgt := 35) C (a := ((kdW F (nP tb (e2 F tb (e2 F tb k))) (nL F tb (e2 F tb (e2 F tb k))) 0 : Nat) : Int)) dX6_pairSuits_28 (by decide) (by omega) (fun h28 => ?_) (fun h28 => ?_)
    · refine lv_iconst (v := zI 0) C.1 C.2.1 dX6_pairSuits_35 (by decide) ?_
      exact hret _ _ _ _ (zI 0) hS ⟨congrArg (fun x : Int => some (zV x)) (by unfold g10; rw [if_pos (isE_t h7).2.2, if_neg (fun z => absurd (hty.mpr z) (by omega))]; rfl), rfl⟩ rfl dX6_pairSuits_36
    · refine lv_iconst (v := zI 1) C.1 C.2.1 dX6_pairSuits_31 (by decide) ?_
      refine lv_goto (tgt := 36) C.1 C.2.1 dX6_pairSuits_32 (by decide) ?_
      exact hret _ _ _ _ (zI 1) hS ⟨congrArg (fun x : Int => some (zV x)) (by unfold g10; rw [if_pos (isE_t h7).2.2, if_pos (hty.mp (by omega))]; rfl), rfl⟩ rfl dX6_pairSuits_36

theorem gN_n {F tb : Nat → Nat} {pc q : Nat} (h : gN F tb pc q = none) : isE F tb pc (U2 F q) 1 = true := by unfold gN at h; split at h; assumption; cases h
theorem orN {a b : Option Nat} (h : a.or b = none) : a = none ∧ b = none := by cases a <;> cases b <;> simp_all
theorem x9_nm {F tb mt : Nat → Nat} {pc mc fa : Nat} (h : x9 F tb pc mt mc fa = none) {j : Nat} (hj : j < mc) : (1 ≤ U2 F (mt j + 2) ∧ U2 F (mt j + 2) < pc ∧ tg F tb (U2 F (mt j + 2)) = 1) ∧ (1 ≤ U2 F (mt j + 4) ∧ U2 F (mt j + 4) < pc ∧ tg F tb (U2 F (mt j + 4)) = 1) ∧ ∀ i, i < U2 F (mt j + 6) → 1 ≤ U2 F (atp F (mt j + 6) i) ∧ U2 F (atp F (mt j + 6) i) < pc ∧ tg F tb (U2 F (atp F (mt j + 6) i)) = 1 := by
  unfold x9 at h
  have e := fst1_none _ _ (orN h).1 j (Nat.zero_le _) (by omega)
  unfold x9m at e
  obtain ⟨a, b⟩ := orN e
  obtain ⟨b, c⟩ := orN b
  exact ⟨isE_t (gN_n a), isE_t (gN_n b), fun i hi => isE_t (gN_n (fst1_none _ _ c i (Nat.zero_le _) (by omega)))⟩

theorem g10_s {F tb : Nat → Nat} {k : Nat} (h : g10 F tb k ≠ none) : g10 F tb k = some (tb k) := by
  unfold g10 at *
  (repeat' split) <;> simp_all
theorem paV_lt (F : Nat → Nat) (fp ln : Nat) (h : ln ≤ 100) : paV F fp ln ≤ 400 := by
  unfold paV
  split
  · have h1 := ppL_2 F fp ln (ln + 1) 1 0 (by omega)
    have h2 := ppI_le F fp ln
    unfold ppI at *
    omega
  · omega

set_option maxHeartbeats 4000000 in
set_option maxRecDepth 20000 in
theorem c_X6_wrongType (l : Launch) (Z : zT) {H : Heap} {ad : Nat → Nat} {τ : mS} {X : List (Nat × va_E)} (hM : isC Z H ad τ X) {F : Nat → Nat} {n : Nat} (hB : cSrc τ F n) {tb mt : Nat → Nat} {cl nf nm fa last : Nat} (hL : cLay τ F tb cl nf nm mt fa last) (hp : pLay F n tb cl nf nm mt fa last) (hx6 : x6 F tb (U2 F 8) = none) (hx9 : x9 F tb (U2 F 8) mt (nf + nm) fa = none) : zP l Z yX6_wrongType cX6_wrongType 5 (some .int) (rmk 4) [.ref (ad 0)] H (zV (oI (x10 F tb (U2 F 8) mt nf (nf + nm)))) := by
  have hn := hB.2.2.2
  have hP := hL.1
  obtain ⟨p1, p2, p3, p4, p5, p6, p7, p8, p9, p10, p11, p12⟩ := id hp
  obtain ⟨q1, q2, q3, q4, q5, q6, q7, q8, q9⟩ := id hL
  have hq := hL.2.1
  have hpp := p4
  refine zM.introI (own := RX6) ⟨by decide, rfl⟩ (Nat.le_of_ble_eq_true rfl) ?_
  intro p e s m args below meth c Q ls hH C hl hret
  have hS : va_S (fun _ => False) s.heap H [] := by rw [hH]; exact va_S.rf
  have hl : lv_has ls 5 [(0, .ref (ad 0))] := hl
  refine lv_aload_n C.1 C.2.1 dX6_wrongType_0 rfl (lv_at hl 0 rfl) ?_
  refine z_get C (v := .ref (ad 3)) hM.img rfl bi_wsX20 1 (by decide) zw_14_20 rfl rfl dX6_wrongType_1 ?_
  refine lv_astore_n (lv' := [(1, .ref (ad 3)), (0, .ref (ad 0))]) C.1 C.2.1 dX6_wrongType_4 rfl hl (by decide) rfl (fun ls hl => ?_)
  refine lv_iconst (v := zI 1) C.1 C.2.1 dX6_wrongType_5 (by decide) ?_
  refine lv_istore_n (lv' := [(2, zN 1), (1, .ref (ad 3)), (0, .ref (ad 0))]) C.1 C.2.1 dX6_wrongType_6 rfl hl (by decide) rfl (fun ls hl => ?_)
  have loop : ∀ (fu : Nat) (k : Nat) (ls : Array Slot) (locs : List Loc), va_S (fun _ => False) s.heap H locs → (1 ≤ k ∧ k ≤ U2 F 8 ∧ U2 F 8 < k + fu) → (fst1 (g10 F tb) (U2 F 8 - k) k = fst1 (g10 F tb) (U2 F 8 - 1) 1) → lv_has ls 5 [(2, zN k), (1, .ref (ad 3)), (0, .ref (ad 0))] → W p l e (rmk 4) s m args below meth c H locs 0 0 Q (F0 m 7 ls []) := by
    intro fu
    induction fu with
    | zero =>
      intro k ls locs hS hk he hl
      (exact absurd hk.2.2 (by omega))
    | succ fu ih_loop =>
      intro k ls locs hS hk he hl
      refine lv_iload_n C.1 C.2.1 dX6_wrongType_7 rfl (lv_at hl 0 rfl) ?_
      refine lv_aload_n C.1 C.2.1 dX6_wrongType_8 rfl (lv_at hl 1 rfl) ?_
      refine z_get C (v := .int (τ.1 1)) hM.pol rfl bi_wsX70 8 (by decide) zw_13_12 rfl rfl dX6_wrongType_9 ?_
      refine z_re (y := zI ((U2 F 8 : Nat) : Int)) hL.1.1 ?_
      refine y_icmp_ge (tgt := 38) C (a := ((k : Nat) : Int)) (b := ((U2 F 8 : Nat) : Int)) dX6_wrongType_12 (by decide) (by omega) (fun h12 => ?_) (fun h12 => ?_)
      · have hs1 : fst1 (g10 F tb) (U2 F 8 - 1) 1 = none := by rw [← he, show U2 F 8 - k = 0 by omega]; rfl
        refine lv_iconst (v := zI 0) C.1 C.2.1 dX6_wrongType_38 (by decide) ?_
        refine lv_istore_n (lv' := [(2, zN 0), (1, .ref (ad 3)), (0, .ref (ad 0))]) C.1 C.2.1 dX6_wrongType_39 rfl hl (by decide) rfl (fun ls hl => ?_)
        have loop2 : ∀ (fu2 : Nat) (i : Nat) (ls : Array Slot) (locs : List Loc), va_S (fun _ => False) s.heap H locs → (i ≤ nf ∧ nf < i + fu2) → (fst1 (g10m F tb mt nf) (nf - i) i = fst1 (g10m F tb mt nf) nf 0) → lv_has ls 5 [(2, zN i), (1, .ref (ad 3)), (0, .ref (ad 0))] → W p l e (rmk 4) s m args below meth c H locs 0 0 Q (F0 m 40 ls []) := by
          intro fu2
          induction fu2 with
          | zero =>
            intro i ls locs hS hi he2 hl
            (exact absurd hi.2 (by omega))
          | succ fu2 ih_loop2 =>
            intro i ls locs hS hi he2 hl
            refine lv_iload_n C.1 C.2.1 dX6_wrongType_40 rfl (lv_at hl 0 rfl) ?_
            refine lv_aload_n C.1 C.2.1 dX6_wrongType_41 rfl (lv_at hl 2 rfl) ?_
            refine z_get C (v := .int (τ.1 2)) hM.img rfl bi_wsX20 6 (by decide) zw_14_10 rfl rfl dX6_wrongType_42 ?_
            refine z_re (y := zI ((nf : Nat) : Int)) hL.2.2.1 ?_
            refine y_icmp_ge (tgt := 82) C (a := ((i : Nat) : Int)) (b := ((nf : Nat) : Int)) dX6_wrongType_45 (by decide) (by omega) (fun h45 => ?_) (fun h45 => ?_)
            · have hs2 : fst1 (g10m F tb mt nf) nf 0 = none := by rw [← he2, show nf - i = 0 by omega]; rfl
              refine lv_iconst (v := zI 0) C.1 C.2.1 dX6_wrongType_82 (by decide) ?_
              refine lv_istore_n (lv' := [(2, zN 0), (1, .ref (ad 3)), (0, .ref (ad 0))]) C.1 C.2.1 dX6_wrongType_83 rfl hl (by decide) rfl (fun ls hl => ?_)
              have loop3 : ∀ (fu3 : Nat) (i : Nat) (ls : Array Slot) (locs : List Loc), va_S (fun _ => False) s.heap H locs → (i ≤ nm ∧ nm < i + fu3) → (fst1 (fun j => g10m F tb mt nf (nf + j)) (nm - i) i = fst1 (fun j => g10m F tb mt nf (nf + j)) nm 0) → lv_has ls 5 [(2, zN i), (1, .ref (ad 3)), (0, .ref (ad 0))] → W p l e (rmk 4) s m args below meth c H locs 0 0 Q (F0 m 84 ls []) := by
                intro fu3
                induction fu3 with
                | zero =>
                  intro i ls locs hS hi he3 hl
                  (exact absurd hi.2 (by omega))
                | succ fu3 ih_loop3 =>
                  intro i ls locs hS hi he3 hl
                  refine lv_iload_n C.1 C.2.1 dX6_wrongType_84 rfl (lv_at hl 0 rfl) ?_
                  refine lv_aload_n C.1 C.2.1 dX6_wrongType_85 rfl (lv_at hl 2 rfl) ?_
                  refine z_get C (v := .int (τ.1 3)) hM.img rfl bi_wsX20 7 (by decide) zw_14_12 rfl rfl dX6_wrongType_86 ?_
                  refine z_re (y := zI ((nm : Nat) : Int)) hL.2.2.2.1 ?_
                  refine y_icmp_ge (tgt := 144) C (a := ((i : Nat) : Int)) (b := ((nm : Nat) : Int)) dX6_wrongType_89 (by decide) (by omega) (fun h89 => ?_) (fun h89 => ?_)
                  · refine lv_iconst (v := zI (-1)) C.1 C.2.1 dX6_wrongType_144 (by decide) ?_
                    exact hret _ _ _ _ (zI (-1)) hS ⟨congrArg (fun x : Int => some (zV x)) (by unfold x10; rw [fst1_add, Nat.zero_add, show fst1 (g10m F tb mt nf) nm nf = fst1 (fun j => g10m F tb mt nf (nf + j)) nm 0 from fst1_sh (k := nf) nm 0]; rw [hs1, hs2, ← he3, show nm - i = 0 by omega]; rfl), rfl⟩ rfl dX6_wrongType_145
                  · have hx := x9_nm hx9 (j := nf + i) (by omega)
                    have hm1 := (hp.m2 (j := i) (by omega)).1
                    have hkw := rsV_lt F (nP tb (U2 F (mt (nf + i) + 4))) (nL F tb (U2 F (mt (nf + i) + 4)))
                    have hpw := paV_lt F (nP tb (U2 F (mt (nf + i) + 4))) (nL F tb (U2 F (mt (nf + i) + 4))) (hpp.nm hx.2.1.2.2).1.2.2.1
                    have hty : (rsV F (nP tb (U2 F (mt (nf + i) + 4))) (nL F tb (U2 F (mt (nf + i) + 4))) ≠ 0 ↔ 0 ≤ ppN F tb (U2 F (mt (nf + i) + 4))) ∧ (0 ≤ ppN F tb (U2 F (mt (nf + i) + 4)) → ppN F tb (U2 F (mt (nf + i) + 4)) = (paV F (nP tb (U2 F (mt (nf + i) + 4))) (nL F tb (U2 F (mt (nf + i) + 4))) : Int)) := rsV_pp F (nP tb (U2 F (mt (nf + i) + 4))) (nL F tb (U2 F (mt (nf + i) + 4)))
                    refine lv_aload_n C.1 C.2.1 dX6_wrongType_92 rfl (lv_at hl 2 rfl) ?_
                    refine z_get C (v := .ref (ad 12)) hM.img rfl bi_wsX20 3 (by decide) zw_14_11 rfl rfl dX6_wrongType_93 ?_
                    refine lv_iload_n C.1 C.2.1 dX6_wrongType_96 rfl (lv_at hl 0 rfl) ?_
                    refine z_readSN C (As := [.ref (ad 12), zN i]) (rest := []) (c_at l Z (hM.row 12 (by decide)) (by decide) i rfl (by show _ < 24; omega)) ⟨⟨zw_11_13, zw_1_2⟩, zd_X11_at⟩ (by decide) zw_11_12 ⟨Nat.le_of_ble_eq_true rfl, Nat.le_of_ble_eq_true rfl⟩ ⟨rfl, rfl⟩ rfl hl.1 rfl (Nat.le_of_ble_eq_true rfl) dX6_wrongType_97 ⟨Nat.zero_le _, Nat.zero_le _⟩ hS (fun locs hS => ?_)
                    refine z_re (y := zI ((mt (nf + i) : Nat) : Int)) (q9 i (by omega)) ?_
                    refine lv_istore_n (lv' := [(3, zN (mt (nf + i))), (2, zN i), (1, .ref (ad 3)), (0, .ref (ad 0))]) C.1 C.2.1 dX6_wrongType_100 rfl hl (by decide) rfl (fun ls hl => ?_)
                    refine lv_aload_n C.1 C.2.1 dX6_wrongType_101 rfl (lv_at hl 3 rfl) ?_
                    refine lv_iload_n C.1 C.2.1 dX6_wrongType_102 rfl (lv_at hl 0 rfl) ?_
                    refine z_readV C (As := [zN (mt (nf + i))]) (rest := []) (c_X2_typeOf l Z hM hB (mt (nf + i)) rfl (by omega)) hM.img rfl ⟨⟨zw_15_12, zw_1_18, zw_15_9⟩, zd_X2_typeOf⟩ zw_15_10 zw_15_11 ⟨Nat.le_of_ble_eq_true rfl, Nat.le_of_ble_eq_true rfl⟩ ⟨rfl, rfl⟩ rfl hl.1 rfl (Nat.le_of_ble_eq_true rfl) dX6_wrongType_103 ⟨Nat.zero_le _, Nat.zero_le _⟩ hS (fun locs hS => ?_)
                    have hnt103 := U2_lt hB.1 ((mt (nf + i)) + 4)
                    refine lv_istore (lv' := [(4, zN (U2 F ((mt (nf + i)) + 4))), (3, zN (mt (nf + i))), (2, zN i), (1, .ref (ad 3)), (0, .ref (ad 0))]) C.1 C.2.1 dX6_wrongType_106 hl (by decide) rfl (fun ls hl => ?_)
                    refine lv_aload_n C.1 C.2.1 dX6_wrongType_108 rfl (lv_at hl 3 rfl) ?_
                    refine z_get C (v := .ref (ad 8)) hM.pol rfl bi_wsX70 5 (by decide) zw_15_21 rfl rfl dX6_wrongType_109 ?_
                    refine lv_iload C.1 C.2.1 dX6_wrongType_112 (lv_at hl 0 rfl) ?_
                    refine z_readSN C (As := [.ref (ad 8), zN (U2 F ((mt (nf + i)) + 4))]) (rest := []) (c_at l Z (hM.row 8 (by decide)) (by decide) (U2 F ((mt (nf + i)) + 4)) rfl (by show _ < 500; omega)) ⟨⟨zw_11_13, zw_1_2⟩, zd_X11_at⟩ (by decide) zw_11_12 ⟨Nat.le_of_ble_eq_true rfl, Nat.le_of_ble_eq_true rfl⟩ ⟨rfl, rfl⟩ rfl hl.1 rfl (Nat.le_of_ble_eq_true rfl) dX6_wrongType_114 ⟨Nat.zero_le _, Nat.zero_le _⟩ hS (fun locs hS => ?_)
                    refine z_re (y := zI ((rsV F (nP tb (U2 F ((mt (nf + i)) + 4))) (nL F tb (U2 F ((mt (nf + i)) + 4))) : Nat) : Int)) ((hq (U2 F ((mt (nf + i)) + 4)) (by omega) (by omega) (by omega)).2.1) ?_
                    refine y_if_eq (tgt := 134) C (a := ((rsV F (nP tb (U2 F ((mt (nf + i)) + 4))) (nL F tb (U2 F ((mt (nf + i)) + 4))) : Nat) : Int)) dX6_wrongType_117 (by decide) (by omega) (fun h117 => ?_) (fun h117 => ?_)
                    · refine lv_iload_n C.1 C.2.1 dX6_wrongType_134 rfl (lv_at hl 1 rfl) ?_
                      refine lv_iconst (v := zI 4) C.1 C.2.1 dX6_wrongType_135 (by decide) ?_
                      refine y_iaddN C (a := mt (nf + i)) (b := 4) dX6_wrongType_136 ?_
                      exact hret _ _ _ _ (zI (((mt (nf + i)) + 4 : Nat) : Int)) hS ⟨congrArg (fun x : Int => some (zV x)) (by unfold x10; rw [fst1_add, Nat.zero_add, show fst1 (g10m F tb mt nf) nm nf = fst1 (fun j => g10m F tb mt nf (nf + j)) nm 0 from fst1_sh (k := nf) nm 0]; rw [hs1, hs2, ← he3, show nm - i = (nm - (i + 1)) + 1 by omega, fst1_e (g := fun j => g10m F tb mt nf (nf + j)) (show g10m F tb mt nf (nf + i) = some (mt (nf + i) + 4) by unfold g10m; rw [if_neg (by omega), if_neg (fun z => by have h9 := hty.1.mpr z.1; have := hty.2 z.1; omega)])]; rfl), rfl⟩ rfl dX6_wrongType_137
                    · refine lv_aload_n C.1 C.2.1 dX6_wrongType_120 rfl (lv_at hl 3 rfl) ?_
                      refine z_get C (v := .ref (ad 9)) hM.pol rfl bi_wsX70 6 (by decide) zw_15_22 rfl rfl dX6_wrongType_121 ?_
                      refine lv_iload C.1 C.2.1 dX6_wrongType_124 (lv_at hl 0 rfl) ?_
                      refine z_readSN C (As := [.ref (ad 9), zN (U2 F ((mt (nf + i)) + 4))]) (rest := []) (c_at l Z (hM.row 9 (by decide)) (by decide) (U2 F ((mt (nf + i)) + 4)) rfl (by show _ < 500; omega)) ⟨⟨zw_11_13, zw_1_2⟩, zd_X11_at⟩ (by decide) zw_11_12 ⟨Nat.le_of_ble_eq_true rfl, Nat.le_of_ble_eq_true rfl⟩ ⟨rfl, rfl⟩ rfl hl.1 rfl (Nat.le_of_ble_eq_true rfl) dX6_wrongType_126 ⟨Nat.zero_le _, Nat.zero_le _⟩ hS (fun locs hS => ?_)
                      refine z_re (y := zI ((paV F (nP tb (U2 F ((mt (nf + i)) + 4))) (nL F tb (U2 F ((mt (nf + i)) + 4))) : Nat) : Int)) ((hq (U2 F ((mt (nf + i)) + 4)) (by omega) (by omega) (by omega)).2.2) ?_
                      refine lv_bipush (v := zI 8) C.1 C.2.1 dX6_wrongType_129 (by decide) ?_
                      refine y_icmp_le (tgt := 138) C (a := ((paV F (nP tb (U2 F ((mt (nf + i)) + 4))) (nL F tb (U2 F ((mt (nf + i)) + 4))) : Nat) : Int)) (b := 8) dX6_wrongType_131 (by decide) (by omega) (fun h131 => ?_) (fun h131 => ?_)
                      · refine lv_iinc (v := zI ((i + 1 : Nat) : Int)) (lv' := [(2, zN (i + 1)), (4, zN (U2 F ((mt (nf + i)) + 4))), (3, zN (mt (nf + i))), (1, .ref (ad 3)), (0, .ref (ad 0))]) C.1 C.2.1 dX6_wrongType_138 hl (k := 2) rfl (zI_add _ _) (by decide) rfl (fun ls hl => ?_)
                        refine lv_goto (tgt := 84) C.1 C.2.1 dX6_wrongType_141 (by decide) ?_
                        exact ih_loop3 (i + 1) ls _ hS (by omega) (by rw [← he3, show nm - i = (nm - (i + 1)) + 1 by omega, fst1_s (g := fun j => g10m F tb mt nf (nf + j)) (by show g10m F tb mt nf (nf + i) = none; unfold g10m; rw [if_neg (by omega), if_pos ⟨hty.1.mp (by omega), by have := hty.2 (hty.1.mp (by omega)); omega⟩])]) (lv_sub hl [0, 3, 4] rfl)
                      · refine lv_iload_n C.1 C.2.1 dX6_wrongType_134 rfl (lv_at hl 1 rfl) ?_
                        refine lv_iconst (v := zI 4) C.1 C.2.1 dX6_wrongType_135 (by decide) ?_
                        refine y_iaddN C (a := mt (nf + i)) (b := 4) dX6_wrongType_136 ?_
                        exact hret _ _ _ _ (zI (((mt (nf + i)) + 4 : Nat) : Int)) hS ⟨congrArg (fun x : Int => some (zV x)) (by unfold x10; rw [fst1_add, Nat.zero_add, show fst1 (g10m F tb mt nf) nm nf = fst1 (fun j => g10m F tb mt nf (nf + j)) nm 0 from fst1_sh (k := nf) nm 0]; rw [hs1, hs2, ← he3, show nm - i = (nm - (i + 1)) + 1 by omega, fst1_e (g := fun j => g10m F tb mt nf (nf + j)) (show g10m F tb mt nf (nf + i) = some (mt (nf + i) + 4) by unfold g10m; rw [if_neg (by omega), if_neg (fun z => by have h9 := hty.1.mpr z.1; have := hty.2 z.1; omega)])]; rfl), rfl⟩ rfl dX6_wrongType_137
              exact loop3 (nm + 1) 0 ls _ hS (by omega) rfl hl
            · have hx := x9_nm hx9 (j := i) (by omega)
              have hm1 := (hp.m1 (j := i) (by omega)).1
              have hkw := kdW_lt F (nP tb (U2 F (mt i + 4))) (nL F tb (U2 F (mt i + 4)))
              have hty : kdW F (nP tb (U2 F (mt i + 4))) (nL F tb (U2 F (mt i + 4))) 0 ≠ 0 ↔ tyN F tb (U2 F (mt i + 4)) = true := kdW_ty F (nP tb (U2 F (mt i + 4))) (nL F tb (U2 F (mt i + 4)))
              refine lv_aload_n C.1 C.2.1 dX6_wrongType_48 rfl (lv_at hl 2 rfl) ?_
              refine z_get C (v := .ref (ad 11)) hM.img rfl bi_wsX20 2 (by decide) zw_14_9 rfl rfl dX6_wrongType_49 ?_
              refine lv_iload_n C.1 C.2.1 dX6_wrongType_52 rfl (lv_at hl 0 rfl) ?_
              refine z_readSN C (As := [.ref (ad 11), zN i]) (rest := []) (c_at l Z (hM.row 11 (by decide)) (by decide) i rfl (by show _ < 24; omega)) ⟨⟨zw_11_13, zw_1_2⟩, zd_X11_at⟩ (by decide) zw_11_12 ⟨Nat.le_of_ble_eq_true rfl, Nat.le_of_ble_eq_true rfl⟩ ⟨rfl, rfl⟩ rfl hl.1 rfl (Nat.le_of_ble_eq_true rfl) dX6_wrongType_53 ⟨Nat.zero_le _, Nat.zero_le _⟩ hS (fun locs hS => ?_)
              refine z_re (y := zI ((mt i : Nat) : Int)) (q8 i (by omega)) ?_
              refine lv_istore_n (lv' := [(3, zN (mt i)), (2, zN i), (1, .ref (ad 3)), (0, .ref (ad 0))]) C.1 C.2.1 dX6_wrongType_56 rfl hl (by decide) rfl (fun ls hl => ?_)
              refine lv_aload_n C.1 C.2.1 dX6_wrongType_57 rfl (lv_at hl 2 rfl) ?_
              refine z_get C (v := .ref (ad 7)) hM.pol rfl bi_wsX70 4 (by decide) zw_15_20 rfl rfl dX6_wrongType_58 ?_
              refine lv_aload_n C.1 C.2.1 dX6_wrongType_61 rfl (lv_at hl 3 rfl) ?_
              refine lv_iload_n C.1 C.2.1 dX6_wrongType_62 rfl (lv_at hl 0 rfl) ?_
              refine z_readV C (As := [zN (mt i)]) (rest := [.ref (ad 7)]) (c_X2_typeOf l Z hM hB (mt i) rfl (by omega)) hM.img rfl ⟨⟨zw_15_12, zw_1_18, zw_15_9⟩, zd_X2_typeOf⟩ zw_15_10 zw_15_11 ⟨Nat.le_of_ble_eq_true rfl, Nat.le_of_ble_eq_true rfl⟩ ⟨rfl, rfl⟩ rfl hl.1 rfl (Nat.le_of_ble_eq_true rfl) dX6_wrongType_63 ⟨Nat.zero_le _, Nat.zero_le _⟩ hS (fun locs hS => ?_)
              have hnt63 := U2_lt hB.1 ((mt i) + 4)
              refine z_readSN C (As := [.ref (ad 7), zN (U2 F ((mt i) + 4))]) (rest := []) (c_at l Z (hM.row 7 (by decide)) (by decide) (U2 F ((mt i) + 4)) rfl (by show _ < 500; omega)) ⟨⟨zw_11_13, zw_1_2⟩, zd_X11_at⟩ (by decide) zw_11_12 ⟨Nat.le_of_ble_eq_true rfl, Nat.le_of_ble_eq_true rfl⟩ ⟨rfl, rfl⟩ rfl hl.1 rfl (Nat.le_of_ble_eq_true rfl) dX6_wrongType_66 ⟨Nat.zero_le _, Nat.zero_le _⟩ hS (fun locs hS => ?_)
              refine z_re (y := zI ((kdW F (nP tb (U2 F ((mt i) + 4))) (nL F tb (U2 F ((mt i) + 4))) 0 : Nat) : Int)) ((hq (U2 F ((mt i) + 4)) (by omega) (by omega) (by omega)).1) ?_
              refine y_if_ne (tgt := 76) C (a := ((kdW F (nP tb (U2 F ((mt i) + 4))) (nL F tb (U2 F ((mt i) + 4))) 0 : Nat) : Int)) dX6_wrongType_69 (by decide) (by omega) (fun h69 => ?_) (fun h69 => ?_)
              · refine lv_iinc (v := zI ((i + 1 : Nat) : Int)) (lv' := [(2, zN (i + 1)), (3, zN (mt i)), (1, .ref (ad 3)), (0, .ref (ad 0))]) C.1 C.2.1 dX6_wrongType_76 hl (k := 1) rfl (zI_add _ _) (by decide) rfl (fun ls hl => ?_)
                refine lv_goto (tgt := 40) C.1 C.2.1 dX6_wrongType_79 (by decide) ?_
                exact ih_loop2 (i + 1) ls _ hS (by omega) (by rw [← he2, show nf - i = (nf - (i + 1)) + 1 by omega, fst1_s (by unfold g10m; rw [if_pos (by omega), if_pos (hty.mp (by omega))])]) (lv_sub hl [0, 2, 3] rfl)
              · refine lv_iload_n C.1 C.2.1 dX6_wrongType_72 rfl (lv_at hl 0 rfl) ?_
                refine lv_iconst (v := zI 4) C.1 C.2.1 dX6_wrongType_73 (by decide) ?_
                refine y_iaddN C (a := mt i) (b := 4) dX6_wrongType_74 ?_
                exact hret _ _ _ _ (zI (((mt i) + 4 : Nat) : Int)) hS ⟨congrArg (fun x : Int => some (zV x)) (by unfold x10; rw [fst1_add, Nat.zero_add, show fst1 (g10m F tb mt nf) nm nf = fst1 (fun j => g10m F tb mt nf (nf + j)) nm 0 from fst1_sh (k := nf) nm 0]; rw [hs1, ← he2, show nf - i = (nf - (i + 1)) + 1 by omega, fst1_e (show g10m F tb mt nf i = some (mt i + 4) by unfold g10m; rw [if_pos (by omega), if_neg (fun z => absurd (hty.mpr z) (by omega))])]; rfl), rfl⟩ rfl dX6_wrongType_75
        exact loop2 (nf + 1) 0 ls _ hS (by omega) rfl hl
      · refine lv_aload_n C.1 C.2.1 dX6_wrongType_15 rfl (lv_at hl 1 rfl) ?_
        refine lv_iload_n C.1 C.2.1 dX6_wrongType_16 rfl (lv_at hl 0 rfl) ?_
        refine z_readS C (As := [.ref (ad 3), zN k]) (rest := []) (c_X6_pairSuits l Z hM hB hP hpp hq rfl hx6 k (by omega)) ⟨⟨zw_16_1, zw_13_10, zw_15_23⟩, zd_X6_pairSuits⟩ zw_16_0 ⟨Nat.le_of_ble_eq_true rfl, Nat.le_of_ble_eq_true rfl⟩ ⟨rfl, rfl⟩ rfl hl.1 rfl (Nat.le_of_ble_eq_true rfl) dX6_wrongType_17 ⟨Nat.zero_le _, Nat.zero_le _⟩ hS (fun locs hS => ?_)
        refine y_ifb_ne (tgt := 32) C dX6_wrongType_20 (by decide) (fun h20 => ?_) (fun h20 => ?_)
        · refine lv_iinc (v := zI ((k + 1 : Nat) : Int)) (lv' := [(2, zN (k + 1)), (1, .ref (ad 3)), (0, .ref (ad 0))]) C.1 C.2.1 dX6_wrongType_32 hl (k := 0) rfl (zI_add _ _) (by decide) rfl (fun ls hl => ?_)
          refine lv_goto (tgt := 7) C.1 C.2.1 dX6_wrongType_35 (by decide) ?_
          exact ih_loop (k + 1) ls _ hS (by omega) (by rw [← he, show U2 F 8 - k = (U2 F 8 - (k + 1)) + 1 by omega, fst1_s (Option.isNone_iff_eq_none.mp h20)]) hl
        · refine lv_aload_n C.1 C.2.1 dX6_wrongType_23 rfl (lv_at hl 1 rfl) ?_
          refine z_get C (v := .ref (ad 4)) hM.pol rfl bi_wsX70 1 (by decide) zw_13_13 rfl rfl dX6_wrongType_24 ?_
          refine lv_iload_n C.1 C.2.1 dX6_wrongType_27 rfl (lv_at hl 0 rfl) ?_
          refine z_readSN C (As := [.ref (ad 4), zN k]) (rest := []) (c_at l Z (hM.row 4 (by decide)) (by decide) k rfl (by show _ < 500; omega)) ⟨⟨zw_11_13, zw_1_2⟩, zd_X11_at⟩ (by decide) zw_11_12 ⟨Nat.le_of_ble_eq_true rfl, Nat.le_of_ble_eq_true rfl⟩ ⟨rfl, rfl⟩ rfl hl.1 rfl (Nat.le_of_ble_eq_true rfl) dX6_wrongType_28 ⟨Nat.zero_le _, Nat.zero_le _⟩ hS (fun locs hS => ?_)
          refine z_re (y := zI ((tb k : Nat) : Int)) ((hP.2.2 k (by omega)).1) ?_
          exact hret _ _ _ _ (zI ((tb k : Nat) : Int)) hS ⟨congrArg (fun x : Int => some (zV x)) (by unfold x10; rw [← he, show U2 F 8 - k = (U2 F 8 - (k + 1)) + 1 by omega, fst1_e (show g10 F tb k = some (tb k) from g10_s (fun z => by rw [z] at h20; cases h20))]; rfl), rfl⟩ rfl dX6_wrongType_31
  exact loop (U2 F 8 + 1) 1 ls _ hS (by omega) rfl hl
