/-! the component: members that entries tell -/
def fnF (F tb f : Nat → Nat) (a b : Nat) : Nat → Nat → Int
  | 0, _ => -1
  | c + 1, i => if mtc F tb f i a b = true then (i : Int) else fnF F tb f a b c (i + 1)
theorem fnF_s {F tb f : Nat → Nat} {a b c i : Nat} (h : mtc F tb f i a b = false) : fnF F tb f a b (c + 1) i = fnF F tb f a b c (i + 1) := by
  conv => lhs; unfold fnF
  rw [if_neg (by rw [h]; decide)]
theorem fnF_e {F tb f : Nat → Nat} {a b c i : Nat} (h : mtc F tb f i a b = true) : fnF F tb f a b (c + 1) i = (i : Int) := by
  unfold fnF
  rw [if_pos h]
theorem fnF_no {F tb f : Nat → Nat} {a b : Nat} : ∀ c i, (∀ j, i ≤ j → j < i + c → mtc F tb f j a b = false) → fnF F tb f a b c i = -1 := by
  intro c
  induction c with
  | zero => intro i _; rfl
  | succ c ih =>
    intro i h
    rw [fnF_s (h i (Nat.le_refl _) (by omega))]
    exact ih (i + 1) (fun j h1 h2 => h j (by omega) (by omega))
theorem fnF_at {F tb f : Nat → Nat} {a b k : Nat} : ∀ c i, i ≤ k → k < i + c → mtc F tb f k a b = true → (∀ j, i ≤ j → j < k → mtc F tb f j a b = false) → fnF F tb f a b c i = (k : Int) := by
  intro c
  induction c with
  | zero => intro i h1 h2; omega
  | succ c ih =>
    intro i h1 h2 h3 h4
    rcases Nat.lt_or_eq_of_le h1 with z | z
    · rw [fnF_s (h4 i (Nat.le_refl _) z)]
      exact ih (i + 1) (by omega) (by omega) h3 (fun j a1 a2 => h4 j (by omega) a2)
    · subst z; exact fnF_e h3
theorem fnL_no {F tb mt : Nat → Nat} {a b lo : Nat} : ∀ c, (∀ j, j < c → mtc F tb mt (lo + j) a b = false) → fnL F tb mt a b lo c = -1 := by
  intro c
  induction c with
  | zero => intro _; rfl
  | succ c ih =>
    intro h
    unfold fnL
    rw [if_neg (by rw [h c (by omega)]; decide)]
    exact ih (fun j hj => h j (by omega))
theorem fnL_at {F tb mt : Nat → Nat} {a b lo k : Nat} : ∀ c, k < c → mtc F tb mt (lo + k) a b = true → (∀ j, j < c → j ≠ k → mtc F tb mt (lo + j) a b = false) → fnL F tb mt a b lo c = (k : Int) := by
  intro c
  induction c with
  | zero => intro h; omega
  | succ c ih =>
    intro h1 h2 h3
    unfold fnL
    by_cases z : c = k
    · subst z; rw [if_pos h2]
    · rw [if_neg (by rw [h3 c (by omega) z]; decide)]
      exact ih (by omega) h2 (fun j a1 a2 => h3 j (by omega) a2)
theorem sameK_t {F tb : Nat → Nat} {a b c : Nat} (h : sameK F tb a c = true) (k : sameK F tb b c = true) : sameK F tb a b = true := by
  obtain ⟨h1, h2⟩ := of_decide_eq_true (show decide _ = true from h)
  obtain ⟨k1, k2⟩ := of_decide_eq_true (show decide _ = true from k)
  exact decide_eq_true ⟨by omega, fun i hi => (h2 i hi).trans (k2 i (by omega)).symm⟩
theorem r11_n {F tb f : Nat → Nat} {cnt i j : Nat} (h : fst1 (r11 F tb f) cnt 0 = none) (hi : i < cnt) (hj : j < i) : sameK F tb (U2 F (f j + 2)) (U2 F (f i + 2)) = false := by
  have e := fst1_none _ _ h i (Nat.zero_le _) (by omega)
  have e2 : (if sameK F tb (U2 F (f j + 2)) (U2 F (f i + 2)) = true then some (f i + 2) else none) = none := fst1_none _ _ e j (Nat.zero_le _) (by omega)
  cases x : sameK F tb (U2 F (f j + 2)) (U2 F (f i + 2))
  · rfl
  · rw [if_pos x] at e2; cases e2
/-- the first member that matches is the last: names are not told twice -/
theorem fnF_L {F tb mt : Nat → Nat} {a b lo cnt : Nat} (h : fst1 (r11 F tb (fun j => mt (lo + j))) cnt 0 = none) : fnF F tb (fun j => mt (lo + j)) a b cnt 0 = fnL F tb mt a b lo cnt := by
  have U : ∀ i j, i < cnt → j < cnt → i ≠ j → mtc F tb mt (lo + i) a b = true → mtc F tb mt (lo + j) a b = false := by
    intro i j hi hj hij h1
    cases x : mtc F tb mt (lo + j) a b
    · rfl
    · unfold mtc at h1 x
      rw [Bool.and_eq_true] at h1 x
      rcases Nat.lt_or_gt_of_ne hij with z | z
      · have := r11_n h hj z
        rw [sameK_t h1.1 x.1] at this; cases this
      · have := r11_n h hi z
        rw [sameK_t x.1 h1.1] at this; cases this
  rcases Classical.em (∃ k, k < cnt ∧ mtc F tb mt (lo + k) a b = true) with ⟨k, hk, hm⟩ | hno
  · rw [fnL_at cnt hk hm (fun j hj hjk => U k j hk hj (fun z => hjk z.symm) hm)]
    exact fnF_at cnt 0 (Nat.zero_le _) (by omega) hm (fun j _ hj => U k j hk (by omega) (by omega) hm)
  · have A : ∀ j, j < cnt → mtc F tb mt (lo + j) a b = false := fun j hj => by
      cases x : mtc F tb mt (lo + j) a b
      · rfl
      · exact absurd ⟨j, hj, x⟩ hno
    rw [fnL_no cnt A]
    exact fnF_no cnt 0 (fun j _ hj => A j (by omega))
theorem fnF_rg (F tb f : Nat → Nat) (a b : Nat) : ∀ c i, -1 ≤ fnF F tb f a b c i ∧ fnF F tb f a b c i ≤ ((i + c : Nat) : Int) := by
  intro c
  induction c with
  | zero => intro i; unfold fnF; omega
  | succ c ih =>
    intro i
    have := ih (i + 1)
    unfold fnF
    split <;> omega
def mbC (F tb mt : Nat → Nat) (cl nf nm k : Nat) : Int := if tg F tb k = 9 then mbR F tb mt (U2 F 8) cl nf nm k 9 else if tg F tb k = 10 then mbR F tb mt (U2 F 8) cl nf nm k 10 else -1
/-- what rule 6 says of a CLASS -/
theorem class7 {F tb : Nat → Nat} {pc k : Nat} (h : x6 F tb pc = none) (hk : isE F tb pc k 7 = true) : 1 ≤ e1 F tb k ∧ e1 F tb k < pc ∧ tg F tb (e1 F tb k) = 1 := by
  have a := isE_t hk
  have g := good6_of h a.1 a.2.1
  unfold good6 at g
  rw [if_pos a.2.2] at g
  exact isE_t g
theorem x8_c {F tb : Nat → Nat} {pc cl : Nat} (h : x8 F tb pc cl = none) : isE F tb pc (U2 F (cl + 2)) 7 = true := by
  unfold x8 at h
  cases e : isE F tb pc (U2 F (cl + 2)) 7
  · rw [if_pos e] at h; cases h
  · rfl

set_option maxHeartbeats 4000000 in
set_option maxRecDepth 20000 in
theorem c_fm11 (l : Launch) (Z : zT) {H : Heap} {ad : Nat → Nat} {τ : mS} {X : List (Nat × va_E)} (hM : isC Z H ad τ X) {F : Nat → Nat} {n : Nat} (hB : cSrc τ F n) {cnt : Nat} {f : Nat → Nat} (hr : ∀ j, j < cnt → τ.2.1 11 j = zI (f j : Int)) (hc24 : cnt ≤ 24) {tb : Nat → Nat} (hP : cPl τ F tb (U2 F 8)) (p4 : pPl F n tb (U2 F 8)) (hx6 : x6 F tb (U2 F 8) = none) (hf : ∀ j, j < cnt → f j + 8 ≤ n) (hnm3 : ∀ j, j < cnt → (U2 F (f j + 2) < U2 F 8 ∧ tg F tb (U2 F (f j + 2)) = 1) ∧ (U2 F (f j + 4) < U2 F 8 ∧ tg F tb (U2 F (f j + 4)) = 1)) {tn k : Nat} (htn : tn < U2 F 8 ∧ tg F tb tn = 1) (hk : 1 ≤ k ∧ k < U2 F 8) (htk : tg F tb k = 9 ∨ tg F tb k = 10) : zP l Z yX5_findMember cX5_findMember 10 (some .int) (rmk 3) [.ref (ad 0), zN tn, zN k, .ref (ad 11), zN cnt] H (zV (if sameK F tb (e1 F tb (e1 F tb k)) tn = true then fnF F tb f (e1 F tb (e2 F tb k)) (e2 F tb (e2 F tb k)) cnt 0 else -1)) := by
  have hn := hB.2.2.2
  have z0 := names10 hx6 ⟨hk.1, hk.2⟩ htk
  obtain ⟨z1, z2, z3, z4⟩ := z0
  have z5 := class7 hx6 z1
  have ht5 := p4.t5 (k := k) (by omega)
  have ht6 := p4.t5 (k := e2 F tb k) (Or.inr (Or.inr z2.2.2))
  have ht7 := p4.t7 (isE_t z1).2.2
  have zc := isE_t z1
  refine zM.introI (own := RX5) ⟨by decide, rfl⟩ (Nat.le_of_ble_eq_true rfl) ?_
  intro p e s m args below meth c Q ls hH C hl hret
  have hS : va_S (fun _ => False) s.heap H [] := by rw [hH]; exact va_S.rf
  have hl : lv_has ls 10 [(0, .ref (ad 0)), (1, zN tn), (2, zN k), (3, .ref (ad 11)), (4, zN cnt)] := hl
  refine lv_aload_n C.1 C.2.1 dX5_findMember_0 rfl (lv_at hl 0 rfl) ?_
  refine z_get C (v := .ref (ad 3)) hM.img rfl bi_wsX20 1 (by decide) zw_21_22 rfl rfl dX5_findMember_1 ?_
  refine lv_astore (lv' := [(5, .ref (ad 3)), (0, .ref (ad 0)), (1, zN tn), (2, zN k), (3, .ref (ad 11)), (4, zN cnt)]) C.1 C.2.1 dX5_findMember_4 hl (by decide) rfl (fun ls hl => ?_)
  refine lv_aload C.1 C.2.1 dX5_findMember_6 (lv_at hl 0 rfl) ?_
  refine lv_aload C.1 C.2.1 dX5_findMember_8 (lv_at hl 0 rfl) ?_
  refine lv_aload C.1 C.2.1 dX5_findMember_10 (lv_at hl 0 rfl) ?_
  refine lv_iload_n C.1 C.2.1 dX5_findMember_12 rfl (lv_at hl 3 rfl) ?_
  refine lv_iconst (v := zI 0) C.1 C.2.1 dX5_findMember_13 (by decide) ?_
  refine z_readV C (As := [zN k, zN 0]) (rest := [.ref (ad 3), .ref (ad 3)]) (c_part0 l Z hM hB hP k (by omega) (by omega)) hM.pol rfl ⟨⟨zw_13_21, zw_2_19, zw_22_5⟩, zd_X7_part⟩ zw_13_19 zw_13_20 ⟨Nat.le_of_ble_eq_true rfl, Nat.le_of_ble_eq_true rfl⟩ ⟨rfl, rfl⟩ rfl hl.1 rfl (Nat.le_of_ble_eq_true rfl) dX5_findMember_14 ⟨Nat.zero_le _, Nat.zero_le _⟩ hS (fun locs hS => ?_)
  have hel14 := e1_lt hB.1 tb k
  refine lv_iconst (v := zI 0) C.1 C.2.1 dX5_findMember_17 (by decide) ?_
  refine z_readV C (As := [zN (e1 F tb k), zN 0]) (rest := [.ref (ad 3)]) (c_part0 l Z hM hB hP (e1 F tb k) (by omega) (by omega)) hM.pol rfl ⟨⟨zw_13_21, zw_2_19, zw_22_5⟩, zd_X7_part⟩ zw_13_19 zw_13_20 ⟨Nat.le_of_ble_eq_true rfl, Nat.le_of_ble_eq_true rfl⟩ ⟨rfl, rfl⟩ rfl hl.1 rfl (Nat.le_of_ble_eq_true rfl) dX5_findMember_18 ⟨Nat.zero_le _, Nat.zero_le _⟩ hS (fun locs hS => ?_)
  have hel18 := e1_lt hB.1 tb (e1 F tb k)
  refine lv_iload_n C.1 C.2.1 dX5_findMember_21 rfl (lv_at hl 2 rfl) ?_
  refine z_readV C (As := [zN (e1 F tb (e1 F tb k)), zN tn]) (rest := []) (c_X7_same l Z hM hB hP (a := e1 F tb (e1 F tb k)) (b := tn) z5.2.1 htn.1 (p4.nm z5.2.2).1 (p4.nm htn.2).1) hM.pol rfl ⟨⟨zw_16_11, zw_2_19, zw_22_10⟩, zd_X7_same⟩ zw_16_9 zw_16_10 ⟨Nat.le_of_ble_eq_true rfl, Nat.le_of_ble_eq_true rfl⟩ ⟨rfl, rfl⟩ rfl hl.1 rfl (Nat.le_of_ble_eq_true rfl) dX5_findMember_22 ⟨Nat.zero_le _, Nat.zero_le _⟩ hS (fun locs hS => ?_)
  refine y_ifb_ne (tgt := 30) C dX5_findMember_25 (by decide) (fun h25 => ?_) (fun h25 => ?_)
  · refine lv_aload C.1 C.2.1 dX5_findMember_30 (lv_at hl 0 rfl) ?_
    refine lv_aload C.1 C.2.1 dX5_findMember_32 (lv_at hl 0 rfl) ?_
    refine lv_iload_n C.1 C.2.1 dX5_findMember_34 rfl (lv_at hl 3 rfl) ?_
    refine lv_iconst (v := zI 1) C.1 C.2.1 dX5_findMember_35 (by decide) ?_
    refine z_readV C (As := [zN k, zN 1]) (rest := [.ref (ad 3)]) (c_part1 l Z hM hB hP k (by omega) (by omega)) hM.pol rfl ⟨⟨zw_13_21, zw_2_19, zw_22_5⟩, zd_X7_part⟩ zw_13_19 zw_13_20 ⟨Nat.le_of_ble_eq_true rfl, Nat.le_of_ble_eq_true rfl⟩ ⟨rfl, rfl⟩ rfl hl.1 rfl (Nat.le_of_ble_eq_true rfl) dX5_findMember_36 ⟨Nat.zero_le _, Nat.zero_le _⟩ hS (fun locs hS => ?_)
    have hel36 := e2_lt hB.1 tb k
    refine lv_iconst (v := zI 0) C.1 C.2.1 dX5_findMember_39 (by decide) ?_
    refine z_readV C (As := [zN (e2 F tb k), zN 0]) (rest := []) (c_part0 l Z hM hB hP (e2 F tb k) (by omega) (by omega)) hM.pol rfl ⟨⟨zw_13_21, zw_2_19, zw_22_5⟩, zd_X7_part⟩ zw_13_19 zw_13_20 ⟨Nat.le_of_ble_eq_true rfl, Nat.le_of_ble_eq_true rfl⟩ ⟨rfl, rfl⟩ rfl hl.1 rfl (Nat.le_of_ble_eq_true rfl) dX5_findMember_40 ⟨Nat.zero_le _, Nat.zero_le _⟩ hS (fun locs hS => ?_)
    have hel40 := e1_lt hB.1 tb (e2 F tb k)
    refine lv_istore (lv' := [(6, zN (e1 F tb (e2 F tb k))), (5, .ref (ad 3)), (0, .ref (ad 0)), (1, zN tn), (2, zN k), (3, .ref (ad 11)), (4, zN cnt)]) C.1 C.2.1 dX5_findMember_43 hl (by decide) rfl (fun ls hl => ?_)
    refine lv_aload C.1 C.2.1 dX5_findMember_45 (lv_at hl 1 rfl) ?_
    refine lv_aload C.1 C.2.1 dX5_findMember_47 (lv_at hl 1 rfl) ?_
    refine lv_iload_n C.1 C.2.1 dX5_findMember_49 rfl (lv_at hl 4 rfl) ?_
    refine lv_iconst (v := zI 1) C.1 C.2.1 dX5_findMember_50 (by decide) ?_
    refine z_readV C (As := [zN k, zN 1]) (rest := [.ref (ad 3)]) (c_part1 l Z hM hB hP k (by omega) (by omega)) hM.pol rfl ⟨⟨zw_13_21, zw_2_19, zw_22_5⟩, zd_X7_part⟩ zw_13_19 zw_13_20 ⟨Nat.le_of_ble_eq_true rfl, Nat.le_of_ble_eq_true rfl⟩ ⟨rfl, rfl⟩ rfl hl.1 rfl (Nat.le_of_ble_eq_true rfl) dX5_findMember_51 ⟨Nat.zero_le _, Nat.zero_le _⟩ hS (fun locs hS => ?_)
    have hel51 := e2_lt hB.1 tb k
    refine lv_iconst (v := zI 1) C.1 C.2.1 dX5_findMember_54 (by decide) ?_
    refine z_readV C (As := [zN (e2 F tb k), zN 1]) (rest := []) (c_part1 l Z hM hB hP (e2 F tb k) (by omega) (by omega)) hM.pol rfl ⟨⟨zw_13_21, zw_2_19, zw_22_5⟩, zd_X7_part⟩ zw_13_19 zw_13_20 ⟨Nat.le_of_ble_eq_true rfl, Nat.le_of_ble_eq_true rfl⟩ ⟨rfl, rfl⟩ rfl hl.1 rfl (Nat.le_of_ble_eq_true rfl) dX5_findMember_55 ⟨Nat.zero_le _, Nat.zero_le _⟩ hS (fun locs hS => ?_)
    have hel55 := e2_lt hB.1 tb (e2 F tb k)
    refine lv_istore (lv' := [(7, zN (e2 F tb (e2 F tb k))), (6, zN (e1 F tb (e2 F tb k))), (5, .ref (ad 3)), (0, .ref (ad 0)), (1, zN tn), (2, zN k), (3, .ref (ad 11)), (4, zN cnt)]) C.1 C.2.1 dX5_findMember_58 hl (by decide) rfl (fun ls hl => ?_)
    refine lv_iconst (v := zI 0) C.1 C.2.1 dX5_findMember_60 (by decide) ?_
    refine lv_istore (lv' := [(8, zN 0), (7, zN (e2 F tb (e2 F tb k))), (6, zN (e1 F tb (e2 F tb k))), (5, .ref (ad 3)), (0, .ref (ad 0)), (1, zN tn), (2, zN k), (3, .ref (ad 11)), (4, zN cnt)]) C.1 C.2.1 dX5_findMember_61 hl (by decide) rfl (fun ls hl => ?_)
    have loop : ∀ (fu : Nat) (i : Nat) (ls : Array Slot) (locs : List Loc), va_S (fun _ => False) s.heap H locs → (i ≤ cnt ∧ cnt < i + fu) → (fnF F tb f (e1 F tb (e2 F tb k)) (e2 F tb (e2 F tb k)) (cnt - i) i = fnF F tb f (e1 F tb (e2 F tb k)) (e2 F tb (e2 F tb k)) cnt 0) → lv_has ls 10 [(8, zN i), (7, zN (e2 F tb (e2 F tb k))), (6, zN (e1 F tb (e2 F tb k))), (5, .ref (ad 3)), (0, .ref (ad 0)), (1, zN tn), (2, zN k), (3, .ref (ad 11)), (4, zN cnt)] → W p l e (rmk 3) s m args below meth c H locs 0 0 Q (F0 m 63 ls []) := by
      intro fu
      induction fu with
      | zero =>
        intro i ls locs hS hi he hl
        (exact absurd hi.2 (by omega))
      | succ fu ih_loop =>
        intro i ls locs hS hi he hl
        refine lv_iload C.1 C.2.1 dX5_findMember_63 (lv_at hl 0 rfl) ?_
        refine lv_iload C.1 C.2.1 dX5_findMember_65 (lv_at hl 8 rfl) ?_
        refine y_icmp_ge (tgt := 119) C (a := ((i : Nat) : Int)) (b := ((cnt : Nat) : Int)) dX5_findMember_67 (by decide) (by omega) (fun h67 => ?_) (fun h67 => ?_)
        · refine lv_iconst (v := zI (-1)) C.1 C.2.1 dX5_findMember_119 (by decide) ?_
          exact hret _ _ _ _ (zI (-1)) hS ⟨congrArg (fun x : Int => some (zV x)) (by rw [if_pos h25, ← he, show cnt - i = 0 by omega]; rfl), rfl⟩ rfl dX5_findMember_120
        · have hf1 := hf i (by omega)
          refine lv_aload_n C.1 C.2.1 dX5_findMember_70 rfl (lv_at hl 7 rfl) ?_
          refine lv_iload C.1 C.2.1 dX5_findMember_71 (lv_at hl 0 rfl) ?_
          refine z_readSN C (As := [.ref (ad 11), zN i]) (rest := []) (c_at l Z (hM.row 11 (by decide)) (by decide) i rfl (by show _ < 24; omega)) ⟨⟨zw_11_13, zw_1_2⟩, zd_X11_at⟩ (by decide) zw_11_12 ⟨Nat.le_of_ble_eq_true rfl, Nat.le_of_ble_eq_true rfl⟩ ⟨rfl, rfl⟩ rfl hl.1 rfl (Nat.le_of_ble_eq_true rfl) dX5_findMember_73 ⟨Nat.zero_le _, Nat.zero_le _⟩ hS (fun locs hS => ?_)
          refine z_re (y := zI ((f i : Nat) : Int)) (hr i (by omega)) ?_
          refine lv_istore (lv' := [(9, zN (f i)), (8, zN i), (7, zN (e2 F tb (e2 F tb k))), (6, zN (e1 F tb (e2 F tb k))), (5, .ref (ad 3)), (0, .ref (ad 0)), (1, zN tn), (2, zN k), (3, .ref (ad 11)), (4, zN cnt)]) C.1 C.2.1 dX5_findMember_76 hl (by decide) rfl (fun ls hl => ?_)
          refine lv_aload C.1 C.2.1 dX5_findMember_78 (lv_at hl 4 rfl) ?_
          refine lv_aload_n C.1 C.2.1 dX5_findMember_80 rfl (lv_at hl 5 rfl) ?_
          refine lv_iload C.1 C.2.1 dX5_findMember_81 (lv_at hl 0 rfl) ?_
          refine z_readV C (As := [zN (f i)]) (rest := [.ref (ad 3)]) (c_X2_nameOf l Z hM hB (f i) rfl (by omega)) hM.img rfl ⟨⟨zw_15_7, zw_1_18, zw_22_11⟩, zd_X2_nameOf⟩ zw_15_5 zw_15_6 ⟨Nat.le_of_ble_eq_true rfl, Nat.le_of_ble_eq_true rfl⟩ ⟨rfl, rfl⟩ rfl hl.1 rfl (Nat.le_of_ble_eq_true rfl) dX5_findMember_83 ⟨Nat.zero_le _, Nat.zero_le _⟩ hS (fun locs hS => ?_)
          have hnt83 := U2_lt hB.1 ((f i) + 2)
          refine lv_iload C.1 C.2.1 dX5_findMember_86 (lv_at hl 3 rfl) ?_
          refine z_readV C (As := [zN (U2 F ((f i) + 2)), zN (e1 F tb (e2 F tb k))]) (rest := []) (c_X7_same l Z hM hB hP (a := U2 F ((f i) + 2)) (b := e1 F tb (e2 F tb k)) (hnm3 i (by omega)).1.1 z3.2.1 (p4.nm (hnm3 i (by omega)).1.2).1 (p4.nm z3.2.2).1) hM.pol rfl ⟨⟨zw_16_11, zw_2_19, zw_22_10⟩, zd_X7_same⟩ zw_16_9 zw_16_10 ⟨Nat.le_of_ble_eq_true rfl, Nat.le_of_ble_eq_true rfl⟩ ⟨rfl, rfl⟩ rfl hl.1 rfl (Nat.le_of_ble_eq_true rfl) dX5_findMember_88 ⟨Nat.zero_le _, Nat.zero_le _⟩ hS (fun locs hS => ?_)
          refine y_ifb_eq (tgt := 113) C dX5_findMember_91 (by decide) (fun h91 => ?_) (fun h91 => ?_)
          · refine lv_iinc (v := zI ((i + 1 : Nat) : Int)) (lv' := [(8, zN (i + 1)), (9, zN (f i)), (7, zN (e2 F tb (e2 F tb k))), (6, zN (e1 F tb (e2 F tb k))), (5, .ref (ad 3)), (0, .ref (ad 0)), (1, zN tn), (2, zN k), (3, .ref (ad 11)), (4, zN cnt)]) C.1 C.2.1 dX5_findMember_113 hl (k := 1) rfl (zI_add _ _) (by decide) rfl (fun ls hl => ?_)
            refine lv_goto (tgt := 63) C.1 C.2.1 dX5_findMember_116 (by decide) ?_
            exact ih_loop (i + 1) ls _ hS (by omega) (by rw [← he, show cnt - i = (cnt - (i + 1)) + 1 by omega, fnF_s (by unfold mtc; first | (rw [h91, h107]; rfl) | (rw [h91]; rfl))]) (lv_sub hl [0, 2, 3, 4, 5, 6, 7, 8, 9] rfl)
          · refine lv_aload C.1 C.2.1 dX5_findMember_94 (lv_at hl 4 rfl) ?_
            refine lv_aload_n C.1 C.2.1 dX5_findMember_96 rfl (lv_at hl 5 rfl) ?_
            refine lv_iload C.1 C.2.1 dX5_findMember_97 (lv_at hl 0 rfl) ?_
            refine z_readV C (As := [zN (f i)]) (rest := [.ref (ad 3)]) (c_X2_typeOf l Z hM hB (f i) rfl (by omega)) hM.img rfl ⟨⟨zw_15_12, zw_1_18, zw_22_12⟩, zd_X2_typeOf⟩ zw_15_10 zw_15_11 ⟨Nat.le_of_ble_eq_true rfl, Nat.le_of_ble_eq_true rfl⟩ ⟨rfl, rfl⟩ rfl hl.1 rfl (Nat.le_of_ble_eq_true rfl) dX5_findMember_99 ⟨Nat.zero_le _, Nat.zero_le _⟩ hS (fun locs hS => ?_)
            have hnt99 := U2_lt hB.1 ((f i) + 4)
            refine lv_iload C.1 C.2.1 dX5_findMember_102 (lv_at hl 2 rfl) ?_
            refine z_readV C (As := [zN (U2 F ((f i) + 4)), zN (e2 F tb (e2 F tb k))]) (rest := []) (c_X7_same l Z hM hB hP (a := U2 F ((f i) + 4)) (b := e2 F tb (e2 F tb k)) (hnm3 i (by omega)).2.1 z4.2.1 (p4.nm (hnm3 i (by omega)).2.2).1 (p4.nm z4.2.2).1) hM.pol rfl ⟨⟨zw_16_11, zw_2_19, zw_22_10⟩, zd_X7_same⟩ zw_16_9 zw_16_10 ⟨Nat.le_of_ble_eq_true rfl, Nat.le_of_ble_eq_true rfl⟩ ⟨rfl, rfl⟩ rfl hl.1 rfl (Nat.le_of_ble_eq_true rfl) dX5_findMember_104 ⟨Nat.zero_le _, Nat.zero_le _⟩ hS (fun locs hS => ?_)
            refine y_ifb_eq (tgt := 113) C dX5_findMember_107 (by decide) (fun h107 => ?_) (fun h107 => ?_)
            · refine lv_iinc (v := zI ((i + 1 : Nat) : Int)) (lv' := [(8, zN (i + 1)), (9, zN (f i)), (7, zN (e2 F tb (e2 F tb k))), (6, zN (e1 F tb (e2 F tb k))), (5, .ref (ad 3)), (0, .ref (ad 0)), (1, zN tn), (2, zN k), (3, .ref (ad 11)), (4, zN cnt)]) C.1 C.2.1 dX5_findMember_113 hl (k := 1) rfl (zI_add _ _) (by decide) rfl (fun ls hl => ?_)
              refine lv_goto (tgt := 63) C.1 C.2.1 dX5_findMember_116 (by decide) ?_
              exact ih_loop (i + 1) ls _ hS (by omega) (by rw [← he, show cnt - i = (cnt - (i + 1)) + 1 by omega, fnF_s (by unfold mtc; first | (rw [h91, h107]; rfl) | (rw [h91]; rfl))]) (lv_sub hl [0, 2, 3, 4, 5, 6, 7, 8, 9] rfl)
            · refine lv_iload C.1 C.2.1 dX5_findMember_110 (lv_at hl 1 rfl) ?_
              exact hret _ _ _ _ (zI ((i : Nat) : Int)) hS ⟨congrArg (fun x : Int => some (zV x)) (by rw [if_pos h25, ← he, show cnt - i = (cnt - (i + 1)) + 1 by omega, fnF_e (by unfold mtc; rw [h91, h107]; rfl)]), rfl⟩ rfl dX5_findMember_112
    exact loop (cnt + 1) 0 ls _ hS (by omega) rfl hl
  · refine lv_iconst (v := zI (-1)) C.1 C.2.1 dX5_findMember_28 (by decide) ?_
    exact hret _ _ _ _ (zI (-1)) hS ⟨congrArg (fun x : Int => some (zV x)) (by rw [if_neg (by rw [h25]; decide)]), rfl⟩ rfl dX5_findMember_29

set_option maxHeartbeats 4000000 in
set_option maxRecDepth 20000 in
theorem c_fm12 (l : Launch) (Z : zT) {H : Heap} {ad : Nat → Nat} {τ : mS} {X : List (Nat × va_E)} (hM : isC Z H ad τ X) {F : Nat → Nat} {n : Nat} (hB : cSrc τ F n) {cnt : Nat} {f : Nat → Nat} (hr : ∀ j, j < cnt → τ.2.1 12 j = zI (f j : Int)) (hc24 : cnt ≤ 24) {tb : Nat → Nat} (hP : cPl τ F tb (U2 F 8)) (p4 : pPl F n tb (U2 F 8)) (hx6 : x6 F tb (U2 F 8) = none) (hf : ∀ j, j < cnt → f j + 8 ≤ n) (hnm3 : ∀ j, j < cnt → (U2 F (f j + 2) < U2 F 8 ∧ tg F tb (U2 F (f j + 2)) = 1) ∧ (U2 F (f j + 4) < U2 F 8 ∧ tg F tb (U2 F (f j + 4)) = 1)) {tn k : Nat} (htn : tn < U2 F 8 ∧ tg F tb tn = 1) (hk : 1 ≤ k ∧ k < U2 F 8) (htk : tg F tb k = 9 ∨ tg F tb k = 10) : zP l Z yX5_findMember cX5_findMember 10 (some .int) (rmk 3) [.ref (ad 0), zN tn, zN k, .ref (ad 12), zN cnt] H (zV (if sameK F tb (e1 F tb (e1 F tb k)) tn = true then fnF F tb f (e1 F tb (e2 F tb k)) (e2 F tb (e2 F tb k)) cnt 0 else -1)) := by
  have hn := hB.2.2.2
  have z0 := names10 hx6 ⟨hk.1, hk.2⟩ htk
  obtain ⟨z1, z2, z3, z4⟩ := z0
  have z5 := class7 hx6 z1
  have ht5 := p4.t5 (k := k) (by omega)
  have ht6 := p4.t5 (k := e2 F tb k) (Or.inr (Or.inr z2.2.2))
  have ht7 := p4.t7 (isE_t z1).2.2
  have zc := isE_t z1
  refine zM.introI (own := RX5) ⟨by decide, rfl⟩ (Nat.le_of_ble_eq_true rfl) ?_
  intro p e s m args below meth c Q ls hH C hl hret
  have hS : va_S (fun _ => False) s.heap H [] := by rw [hH]; exact va_S.rf
  have hl : lv_has ls 10 [(0, .ref (ad 0)), (1, zN tn), (2, zN k), (3, .ref (ad 12)), (4, zN cnt)] := hl
  refine lv_aload_n C.1 C.2.1 dX5_findMember_0 rfl (lv_at hl 0 rfl) ?_
  refine z_get C (v := .ref (ad 3)) hM.img rfl bi_wsX20 1 (by decide) zw_21_22 rfl rfl dX5_findMember_1 ?_
  refine lv_astore (lv' := [(5, .ref (ad 3)), (0, .ref (ad 0)), (1, zN tn), (2, zN k), (3, .ref (ad 12)), (4, zN cnt)]) C.1 C.2.1 dX5_findMember_4 hl (by decide) rfl (fun ls hl => ?_)
  refine lv_aload C.1 C.2.1 dX5_findMember_6 (lv_at hl 0 rfl) ?_
  refine lv_aload C.1 C.2.1 dX5_findMember_8 (lv_at hl 0 rfl) ?_
  refine lv_aload C.1 C.2.1 dX5_findMember_10 (lv_at hl 0 rfl) ?_
  refine lv_iload_n C.1 C.2.1 dX5_findMember_12 rfl (lv_at hl 3 rfl) ?_
  refine lv_iconst (v := zI 0) C.1 C.2.1 dX5_findMember_13 (by decide) ?_
  refine z_readV C (As := [zN k, zN 0]) (rest := [.ref (ad 3), .ref (ad 3)]) (c_part0 l Z hM hB hP k (by omega) (by omega)) hM.pol rfl ⟨⟨zw_13_21, zw_2_19, zw_22_5⟩, zd_X7_part⟩ zw_13_19 zw_13_20 ⟨Nat.le_of_ble_eq_true rfl, Nat.le_of_ble_eq_true rfl⟩ ⟨rfl, rfl⟩ rfl hl.1 rfl (Nat.le_of_ble_eq_true rfl) dX5_findMember_14 ⟨Nat.zero_le _, Nat.zero_le _⟩ hS (fun locs hS => ?_)
  have hel14 := e1_lt hB.1 tb k
  refine lv_iconst (v := zI 0) C.1 C.2.1 dX5_findMember_17 (by decide) ?_
  refine z_readV C (As := [zN (e1 F tb k), zN 0]) (rest := [.ref (ad 3)]) (c_part0 l Z hM hB hP (e1 F tb k) (by omega) (by omega)) hM.pol rfl ⟨⟨zw_13_21, zw_2_19, zw_22_5⟩, zd_X7_part⟩ zw_13_19 zw_13_20 ⟨Nat.le_of_ble_eq_true rfl, Nat.le_of_ble_eq_true rfl⟩ ⟨rfl, rfl⟩ rfl hl.1 rfl (Nat.le_of_ble_eq_true rfl) dX5_findMember_18 ⟨Nat.zero_le _, Nat.zero_le _⟩ hS (fun locs hS => ?_)
  have hel18 := e1_lt hB.1 tb (e1 F tb k)
  refine lv_iload_n C.1 C.2.1 dX5_findMember_21 rfl (lv_at hl 2 rfl) ?_
  refine z_readV C (As := [zN (e1 F tb (e1 F tb k)), zN tn]) (rest := []) (c_X7_same l Z hM hB hP (a := e1 F tb (e1 F tb k)) (b := tn) z5.2.1 htn.1 (p4.nm z5.2.2).1 (p4.nm htn.2).1) hM.pol rfl ⟨⟨zw_16_11, zw_2_19, zw_22_10⟩, zd_X7_same⟩ zw_16_9 zw_16_10 ⟨Nat.le_of_ble_eq_true rfl, Nat.le_of_ble_eq_true rfl⟩ ⟨rfl, rfl⟩ rfl hl.1 rfl (Nat.le_of_ble_eq_true rfl) dX5_findMember_22 ⟨Nat.zero_le _, Nat.zero_le _⟩ hS (fun locs hS => ?_)
  refine y_ifb_ne (tgt := 30) C dX5_findMember_25 (by decide) (fun h25 => ?_) (fun h25 => ?_)
  · refine lv_aload C.1 C.2.1 dX5_findMember_30 (lv_at hl 0 rfl) ?_
    refine lv_aload C.1 C.2.1 dX5_findMember_32 (lv_at hl 0 rfl) ?_
    refine lv_iload_n C.1 C.2.1 dX5_findMember_34 rfl (lv_at hl 3 rfl) ?_
    refine lv_iconst (v := zI 1) C.1 C.2.1 dX5_findMember_35 (by decide) ?_
    refine z_readV C (As := [zN k, zN 1]) (rest := [.ref (ad 3)]) (c_part1 l Z hM hB hP k (by omega) (by omega)) hM.pol rfl ⟨⟨zw_13_21, zw_2_19, zw_22_5⟩, zd_X7_part⟩ zw_13_19 zw_13_20 ⟨Nat.le_of_ble_eq_true rfl, Nat.le_of_ble_eq_true rfl⟩ ⟨rfl, rfl⟩ rfl hl.1 rfl (Nat.le_of_ble_eq_true rfl) dX5_findMember_36 ⟨Nat.zero_le _, Nat.zero_le _⟩ hS (fun locs hS => ?_)
    have hel36 := e2_lt hB.1 tb k
    refine lv_iconst (v := zI 0) C.1 C.2.1 dX5_findMember_39 (by decide) ?_
    refine z_readV C (As := [zN (e2 F tb k), zN 0]) (rest := []) (c_part0 l Z hM hB hP (e2 F tb k) (by omega) (by omega)) hM.pol rfl ⟨⟨zw_13_21, zw_2_19, zw_22_5⟩, zd_X7_part⟩ zw_13_19 zw_13_20 ⟨Nat.le_of_ble_eq_true rfl, Nat.le_of_ble_eq_true rfl⟩ ⟨rfl, rfl⟩ rfl hl.1 rfl (Nat.le_of_ble_eq_true rfl) dX5_findMember_40 ⟨Nat.zero_le _, Nat.zero_le _⟩ hS (fun locs hS => ?_)
    have hel40 := e1_lt hB.1 tb (e2 F tb k)
    refine lv_istore (lv' := [(6, zN (e1 F tb (e2 F tb k))), (5, .ref (ad 3)), (0, .ref (ad 0)), (1, zN tn), (2, zN k), (3, .ref (ad 12)), (4, zN cnt)]) C.1 C.2.1 dX5_findMember_43 hl (by decide) rfl (fun ls hl => ?_)
    refine lv_aload C.1 C.2.1 dX5_findMember_45 (lv_at hl 1 rfl) ?_
    refine lv_aload C.1 C.2.1 dX5_findMember_47 (lv_at hl 1 rfl) ?_
    refine lv_iload_n C.1 C.2.1 dX5_findMember_49 rfl (lv_at hl 4 rfl) ?_
    refine lv_iconst (v := zI 1) C.1 C.2.1 dX5_findMember_50 (by decide) ?_
    refine z_readV C (As := [zN k, zN 1]) (rest := [.ref (ad 3)]) (c_part1 l Z hM hB hP k (by omega) (by omega)) hM.pol rfl ⟨⟨zw_13_21, zw_2_19, zw_22_5⟩, zd_X7_part⟩ zw_13_19 zw_13_20 ⟨Nat.le_of_ble_eq_true rfl, Nat.le_of_ble_eq_true rfl⟩ ⟨rfl, rfl⟩ rfl hl.1 rfl (Nat.le_of_ble_eq_true rfl) dX5_findMember_51 ⟨Nat.zero_le _, Nat.zero_le _⟩ hS (fun locs hS => ?_)
    have hel51 := e2_lt hB.1 tb k
    refine lv_iconst (v := zI 1) C.1 C.2.1 dX5_findMember_54 (by decide) ?_
    refine z_readV C (As := [zN (e2 F tb k), zN 1]) (rest := []) (c_part1 l Z hM hB hP (e2 F tb k) (by omega) (by omega)) hM.pol rfl ⟨⟨zw_13_21, zw_2_19, zw_22_5⟩, zd_X7_part⟩ zw_13_19 zw_13_20 ⟨Nat.le_of_ble_eq_true rfl, Nat.le_of_ble_eq_true rfl⟩ ⟨rfl, rfl⟩ rfl hl.1 rfl (Nat.le_of_ble_eq_true rfl) dX5_findMember_55 ⟨Nat.zero_le _, Nat.zero_le _⟩ hS (fun locs hS => ?_)
    have hel55 := e2_lt hB.1 tb (e2 F tb k)
    refine lv_istore (lv' := [(7, zN (e2 F tb (e2 F tb k))), (6, zN (e1 F tb (e2 F tb k))), (5, .ref (ad 3)), (0, .ref (ad 0)), (1, zN tn), (2, zN k), (3, .ref (ad 12)), (4, zN cnt)]) C.1 C.2.1 dX5_findMember_58 hl (by decide) rfl (fun ls hl => ?_)
    refine lv_iconst (v := zI 0) C.1 C.2.1 dX5_findMember_60 (by decide) ?_
    refine lv_istore (lv' := [(8, zN 0), (7, zN (e2 F tb (e2 F tb k))), (6, zN (e1 F tb (e2 F tb k))), (5, .ref (ad 3)), (0, .ref (ad 0)), (1, zN tn), (2, zN k), (3, .ref (ad 12)), (4, zN cnt)]) C.1 C.2.1 dX5_findMember_61 hl (by decide) rfl (fun ls hl => ?_)
    have loop : ∀ (fu : Nat) (i : Nat) (ls : Array Slot) (locs : List Loc), va_S (fun _ => False) s.heap H locs → (i ≤ cnt ∧ cnt < i + fu) → (fnF F tb f (e1 F tb (e2 F tb k)) (e2 F tb (e2 F tb k)) (cnt - i) i = fnF F tb f (e1 F tb (e2 F tb k)) (e2 F tb (e2 F tb k)) cnt 0) → lv_has ls 10 [(8, zN i), (7, zN (e2 F tb (e2 F tb k))), (6, zN (e1 F tb (e2 F tb k))), (5, .ref (ad 3)), (0, .ref (ad 0)), (1, zN tn), (2, zN k), (3, .ref (ad 12)), (4, zN cnt)] → W p l e (rmk 3) s m args below meth c H locs 0 0 Q (F0 m 63 ls []) := by
      intro fu
      induction fu with
      | zero =>
        intro i ls locs hS hi he hl
        (exact absurd hi.2 (by omega))
      | succ fu ih_loop =>
        intro i ls locs hS hi he hl
        refine lv_iload C.1 C.2.1 dX5_findMember_63 (lv_at hl 0 rfl) ?_
        refine lv_iload C.1 C.2.1 dX5_findMember_65 (lv_at hl 8 rfl) ?_
        refine y_icmp_ge (tgt := 119) C (a := ((i : Nat) : Int)) (b := ((cnt : Nat) : Int)) dX5_findMember_67 (by decide) (by omega) (fun h67 => ?_) (fun h67 => ?_)
        · refine lv_iconst (v := zI (-1)) C.1 C.2.1 dX5_findMember_119 (by decide) ?_
          exact hret _ _ _ _ (zI (-1)) hS ⟨congrArg (fun x : Int => some (zV x)) (by rw [if_pos h25, ← he, show cnt - i = 0 by omega]; rfl), rfl⟩ rfl dX5_findMember_120
        · have hf1 := hf i (by omega)
          refine lv_aload_n C.1 C.2.1 dX5_findMember_70 rfl (lv_at hl 7 rfl) ?_
          refine lv_iload C.1 C.2.1 dX5_findMember_71 (lv_at hl 0 rfl) ?_
          refine z_readSN C (As := [.ref (ad 12), zN i]) (rest := []) (c_at l Z (hM.row 12 (by decide)) (by decide) i rfl (by show _ < 24; omega)) ⟨⟨zw_11_13, zw_1_2⟩, zd_X11_at⟩ (by decide) zw_11_12 ⟨Nat.le_of_ble_eq_true rfl, Nat.le_of_ble_eq_true rfl⟩ ⟨rfl, rfl⟩ rfl hl.1 rfl (Nat.le_of_ble_eq_true rfl) dX5_findMember_73 ⟨Nat.zero_le _, Nat.zero_le _⟩ hS (fun locs hS => ?_)
          refine z_re (y := zI ((f i : Nat) : Int)) (hr i (by omega)) ?_
          refine lv_istore (lv' := [(9, zN (f i)), (8, zN i), (7, zN (e2 F tb (e2 F tb k))), (6, zN (e1 F tb (e2 F tb k))), (5, .ref (ad 3)), (0, .ref (ad 0)), (1, zN tn), (2, zN k), (3, .ref (ad 12)), (4, zN cnt)]) C.1 C.2.1 dX5_findMember_76 hl (by decide) rfl (fun ls hl => ?_)
          refine lv_aload C.1 C.2.1 dX5_findMember_78 (lv_at hl 4 rfl) ?_
          refine lv_aload_n C.1 C.2.1 dX5_findMember_80 rfl (lv_at hl 5 rfl) ?_
          refine lv_iload C.1 C.2.1 dX5_findMember_81 (lv_at hl 0 rfl) ?_
          refine z_readV C (As := [zN (f i)]) (rest := [.ref (ad 3)]) (c_X2_nameOf l Z hM hB (f i) rfl (by omega)) hM.img rfl ⟨⟨zw_15_7, zw_1_18, zw_22_11⟩, zd_X2_nameOf⟩ zw_15_5 zw_15_6 ⟨Nat.le_of_ble_eq_true rfl, Nat.le_of_ble_eq_true rfl⟩ ⟨rfl, rfl⟩ rfl hl.1 rfl (Nat.le_of_ble_eq_true rfl) dX5_findMember_83 ⟨Nat.zero_le _, Nat.zero_le _⟩ hS (fun locs hS => ?_)
          have hnt83 := U2_lt hB.1 ((f i) + 2)
          refine lv_iload C.1 C.2.1 dX5_findMember_86 (lv_at hl 3 rfl) ?_
          refine z_readV C (As := [zN (U2 F ((f i) + 2)), zN (e1 F tb (e2 F tb k))]) (rest := []) (c_X7_same l Z hM hB hP (a := U2 F ((f i) + 2)) (b := e1 F tb (e2 F tb k)) (hnm3 i (by omega)).1.1 z3.2.1 (p4.nm (hnm3 i (by omega)).1.2).1 (p4.nm z3.2.2).1) hM.pol rfl ⟨⟨zw_16_11, zw_2_19, zw_22_10⟩, zd_X7_same⟩ zw_16_9 zw_16_10 ⟨Nat.le_of_ble_eq_true rfl, Nat.le_of_ble_eq_true rfl⟩ ⟨rfl, rfl⟩ rfl hl.1 rfl (Nat.le_of_ble_eq_true rfl) dX5_findMember_88 ⟨Nat.zero_le _, Nat.zero_le _⟩ hS (fun locs hS => ?_)
          refine y_ifb_eq (tgt := 113) C dX5_findMember_91 (by decide) (fun h91 => ?_) (fun h91 => ?_)
          · refine lv_iinc (v := zI ((i + 1 : Nat) : Int)) (lv' := [(8, zN (i + 1)), (9, zN (f i)), (7, zN (e2 F tb (e2 F tb k))), (6, zN (e1 F tb (e2 F tb k))), (5, .ref (ad 3)), (0, .ref (ad 0)), (1, zN tn), (2, zN k), (3, .ref (ad 12)), (4, zN cnt)]) C.1 C.2.1 dX5_findMember_113 hl (k := 1) rfl (zI_add _ _) (by decide) rfl (fun ls hl => ?_)
            refine lv_goto (tgt := 63) C.1 C.2.1 dX5_findMember_116 (by decide) ?_
            exact ih_loop (i + 1) ls _ hS (by omega) (by rw [← he, show cnt - i = (cnt - (i + 1)) + 1 by omega, fnF_s (by unfold mtc; first | (rw [h91, h107]; rfl) | (rw [h91]; rfl))]) (lv_sub hl [0, 2, 3, 4, 5, 6, 7, 8, 9] rfl)
          · refine lv_aload C.1 C.2.1 dX5_findMember_94 (lv_at hl 4 rfl) ?_
            refine lv_aload_n C.1 C.2.1 dX5_findMember_96 rfl (lv_at hl 5 rfl) ?_
            refine lv_iload C.1 C.2.1 dX5_findMember_97 (lv_at hl 0 rfl) ?_
            refine z_readV C (As := [zN (f i)]) (rest := [.ref (ad 3)]) (c_X2_typeOf l Z hM hB (f i) rfl (by omega)) hM.img rfl ⟨⟨zw_15_12, zw_1_18, zw_22_12⟩, zd_X2_typeOf⟩ zw_15_10 zw_15_11 ⟨Nat.le_of_ble_eq_true rfl, Nat.le_of_ble_eq_true rfl⟩ ⟨rfl, rfl⟩ rfl hl.1 rfl (Nat.le_of_ble_eq_true rfl) dX5_findMember_99 ⟨Nat.zero_le _, Nat.zero_le _⟩ hS (fun locs hS => ?_)
            have hnt99 := U2_lt hB.1 ((f i) + 4)
            refine lv_iload C.1 C.2.1 dX5_findMember_102 (lv_at hl 2 rfl) ?_
            refine z_readV C (As := [zN (U2 F ((f i) + 4)), zN (e2 F tb (e2 F tb k))]) (rest := []) (c_X7_same l Z hM hB hP (a := U2 F ((f i) + 4)) (b := e2 F tb (e2 F tb k)) (hnm3 i (by omega)).2.1 z4.2.1 (p4.nm (hnm3 i (by omega)).2.2).1 (p4.nm z4.2.2).1) hM.pol rfl ⟨⟨zw_16_11, zw_2_19, zw_22_10⟩, zd_X7_same⟩ zw_16_9 zw_16_10 ⟨Nat.le_of_ble_eq_true rfl, Nat.le_of_ble_eq_true rfl⟩ ⟨rfl, rfl⟩ rfl hl.1 rfl (Nat.le_of_ble_eq_true rfl) dX5_findMember_104 ⟨Nat.zero_le _, Nat.zero_le _⟩ hS (fun locs hS => ?_)
            refine y_ifb_eq (tgt := 113) C dX5_findMember_107 (by decide) (fun h107 => ?_) (fun h107 => ?_)
            · refine lv_iinc (v := zI ((i + 1 : Nat) : Int)) (lv' := [(8, zN (i + 1)), (9, zN (f i)), (7, zN (e2 F tb (e2 F tb k))), (6, zN (e1 F tb (e2 F tb k))), (5, .ref (ad 3)), (0, .ref (ad 0)), (1, zN tn), (2, zN k), (3, .ref (ad 12)), (4, zN cnt)]) C.1 C.2.1 dX5_findMember_113 hl (k := 1) rfl (zI_add _ _) (by decide) rfl (fun ls hl => ?_)
              refine lv_goto (tgt := 63) C.1 C.2.1 dX5_findMember_116 (by decide) ?_
              exact ih_loop (i + 1) ls _ hS (by omega) (by rw [← he, show cnt - i = (cnt - (i + 1)) + 1 by omega, fnF_s (by unfold mtc; first | (rw [h91, h107]; rfl) | (rw [h91]; rfl))]) (lv_sub hl [0, 2, 3, 4, 5, 6, 7, 8, 9] rfl)
            · refine lv_iload C.1 C.2.1 dX5_findMember_110 (lv_at hl 1 rfl) ?_
              exact hret _ _ _ _ (zI ((i : Nat) : Int)) hS ⟨congrArg (fun x : Int => some (zV x)) (by rw [if_pos h25, ← he, show cnt - i = (cnt - (i + 1)) + 1 by omega, fnF_e (by unfold mtc; rw [h91, h107]; rfl)]), rfl⟩ rfl dX5_findMember_112
    exact loop (cnt + 1) 0 ls _ hS (by omega) rfl hl
  · refine lv_iconst (v := zI (-1)) C.1 C.2.1 dX5_findMember_28 (by decide) ?_
    exact hret _ _ _ _ (zI (-1)) hS ⟨congrArg (fun x : Int => some (zV x)) (by rw [if_neg (by rw [h25]; decide)]), rfl⟩ rfl dX5_findMember_29

theorem mbC_9 {F tb mt : Nat → Nat} {cl nf nm k : Nat} (h : isE F tb (U2 F 8) k 9 = true) (hr : fst1 (r11 F tb mt) nf 0 = none) : (if sameK F tb (e1 F tb (e1 F tb k)) (e1 F tb (U2 F (cl + 2))) = true then fnF F tb mt (e1 F tb (e2 F tb k)) (e2 F tb (e2 F tb k)) nf 0 else -1) = mbC F tb mt cl nf nm k := by
  have e : fnF F tb mt (e1 F tb (e2 F tb k)) (e2 F tb (e2 F tb k)) nf 0 = fnL F tb mt (e1 F tb (e2 F tb k)) (e2 F tb (e2 F tb k)) 0 nf := by
    have f0 : (fun j => mt (0 + j)) = mt := by funext j; rw [Nat.zero_add]
    have := fnF_L (F := F) (tb := tb) (mt := mt) (a := e1 F tb (e2 F tb k)) (b := e2 F tb (e2 F tb k)) (lo := 0) (cnt := nf) (by rw [f0]; exact hr)
    rw [f0] at this
    exact this
  unfold mbC mbR
  rw [if_pos (isE_t h).2.2]
  by_cases z : sameK F tb (e1 F tb (e1 F tb k)) (e1 F tb (U2 F (cl + 2))) = true
  · rw [if_pos z, if_pos ⟨h, z⟩, if_pos rfl, e]
  · rw [if_neg z, if_neg (fun y => z y.2)]
theorem mbC_10 {F tb mt : Nat → Nat} {cl nf nm k : Nat} (h : isE F tb (U2 F 8) k 10 = true) (hr : fst1 (r11 F tb (fun j => mt (nf + j))) nm 0 = none) : (if sameK F tb (e1 F tb (e1 F tb k)) (e1 F tb (U2 F (cl + 2))) = true then fnF F tb (fun j => mt (nf + j)) (e1 F tb (e2 F tb k)) (e2 F tb (e2 F tb k)) nm 0 else -1) = mbC F tb mt cl nf nm k := by
  unfold mbC mbR
  rw [if_neg (show ¬ tg F tb k = 9 by have := (isE_t h).2.2; omega), if_pos (isE_t h).2.2]
  by_cases z : sameK F tb (e1 F tb (e1 F tb k)) (e1 F tb (U2 F (cl + 2))) = true
  · rw [if_pos z, if_pos ⟨h, z⟩, if_neg (by decide), fnF_L hr]
  · rw [if_neg z, if_neg (fun y => z y.2)]
theorem mbC_0 {F tb mt : Nat → Nat} {cl nf nm k : Nat} (h : isE F tb (U2 F 8) k 9 = false) (h2 : isE F tb (U2 F 8) k 10 = false) (hk : 1 ≤ k ∧ k < U2 F 8) : (-1 : Int) = mbC F tb mt cl nf nm k := by
  unfold mbC
  rw [if_neg (fun z => isE_no h ⟨hk.1, hk.2, z⟩), if_neg (fun z => isE_no h2 ⟨hk.1, hk.2, z⟩)]
theorem fnL_lt (F tb mt : Nat → Nat) (a b lo : Nat) : ∀ c, fnL F tb mt a b lo c < (c : Int) := by
  intro c
  induction c with
  | zero => unfold fnL; omega
  | succ c ih => unfold fnL; split <;> omega
theorem fnL_ge (F tb mt : Nat → Nat) (a b lo : Nat) : ∀ c, -1 ≤ fnL F tb mt a b lo c := by
  intro c
  induction c with
  | zero => unfold fnL; omega
  | succ c ih => unfold fnL; split <;> omega
theorem mbR_rg (F tb mt : Nat → Nat) (pc cl nf nm k g : Nat) : -1 ≤ mbR F tb mt pc cl nf nm k g ∧ mbR F tb mt pc cl nf nm k g < (nf + nm : Nat) + 1 := by
  have a := fnL_lt F tb mt (e1 F tb (e2 F tb k)) (e2 F tb (e2 F tb k)) 0 nf
  have b := fnL_lt F tb mt (e1 F tb (e2 F tb k)) (e2 F tb (e2 F tb k)) nf nm
  have c := fnL_ge F tb mt (e1 F tb (e2 F tb k)) (e2 F tb (e2 F tb k)) 0 nf
  have d := fnL_ge F tb mt (e1 F tb (e2 F tb k)) (e2 F tb (e2 F tb k)) nf nm
  unfold mbR
  split
  · split <;> omega
  · omega

set_option maxHeartbeats 4000000 in
set_option maxRecDepth 20000 in
theorem c_X5_findMembers (l : Launch) (Z : zT) {H : Heap} {ad : Nat → Nat} {τ : mS} {X : List (Nat × va_E)} (hM : isC Z H ad τ X) {F : Nat → Nat} {n : Nat} (hB : cSrc τ F n) {tb mt : Nat → Nat} {cl nf nm fa last : Nat} (hL : cLay τ F tb cl nf nm mt fa last) (hp : pLay F n tb cl nf nm mt fa last) (hx6 : x6 F tb (U2 F 8) = none) (hx9 : x9 F tb (U2 F 8) mt (nf + nm) fa = none) (hx8 : x8 F tb (U2 F 8) cl = none) (hx11 : x11 F tb mt nf (nf + nm) = none) : zM l Z yX5_findMembers cX5_findMembers 5 none (rmk 4) [.ref (ad 0)] H (cA ad) 0 0 (fun v H' => v = none ∧ ∃ τ' : mS, isC Z H' ad τ' X ∧ chg [] [10] τ τ' ∧ ∀ k, 1 ≤ k → k < U2 F 8 → τ'.2.1 10 k = zI (mbC F tb mt cl nf nm k)) := by
  have hn := hB.2.2.2
  have hP := hL.1
  obtain ⟨p1, p2, p3, p4, p5, p6, p7, p8, p9, p10, p11, p12⟩ := id hp
  obtain ⟨q1, q2, q3, q4, q5, q6, q7, q8, q9⟩ := id hL
  have hx8c := x8_c hx8
  have htc := class7 hx6 hx8c
  have ht7 := p4.t7 (isE_t hx8c).2.2
  have hx8t := isE_t hx8c
  have hr11 := hx11
  rw [x11_r] at hr11
  have hr11a := (orN hr11).1
  have hr11b := (orN hr11).2
  refine zM.introV (own := RX5) ⟨by decide, rfl⟩ (Nat.le_of_ble_eq_true rfl) ?_
  intro p e s m args below meth c Q ls hH C hnm hl hret
  have hS : va_S (cA ad) s.heap H [] := by rw [hH]; exact va_S.rf
  have hl : lv_has ls 5 [(0, .ref (ad 0))] := hl
  refine lv_aload_n C.1 C.2.1 dX5_findMembers_0 rfl (lv_at hl 0 rfl) ?_
  refine z_get C (v := .ref (ad 3)) hM.img rfl bi_wsX20 1 (by decide) zw_21_22 rfl rfl dX5_findMembers_1 ?_
  refine lv_astore_n (lv' := [(1, .ref (ad 3)), (0, .ref (ad 0))]) C.1 C.2.1 dX5_findMembers_4 rfl hl (by decide) rfl (fun ls hl => ?_)
  refine lv_aload_n C.1 C.2.1 dX5_findMembers_5 rfl (lv_at hl 0 rfl) ?_
  refine lv_aload_n C.1 C.2.1 dX5_findMembers_6 rfl (lv_at hl 1 rfl) ?_
  refine z_get C (v := .ref (ad 1)) hM.img rfl bi_wsX20 0 (by decide) zw_20_18 rfl rfl dX5_findMembers_7 ?_
  refine lv_aload_n C.1 C.2.1 dX5_findMembers_10 rfl (lv_at hl 1 rfl) ?_
  refine z_get C (v := .int (τ.1 4)) hM.img rfl bi_wsX20 8 (by decide) zw_21_23 rfl rfl dX5_findMembers_11 ?_
  refine z_re (y := zI ((cl : Nat) : Int)) hL.2.2.2.2.1 ?_
  refine lv_iconst (v := zI 2) C.1 C.2.1 dX5_findMembers_14 (by decide) ?_
  refine y_iaddN C (a := cl) (b := 2) dX5_findMembers_15 ?_
  refine z_readV C (As := [zN (cl + 2)]) (rest := [.ref (ad 3)]) (c_u2 l Z hM hB (cl + 2) rfl (by omega)) hM.byt rfl ⟨⟨zw_10_5, zw_2_15, zw_22_4⟩, zd_X1_u2⟩ zw_10_3 zw_10_4 ⟨Nat.le_of_ble_eq_true rfl, Nat.le_of_ble_eq_true rfl⟩ ⟨rfl, rfl⟩ rfl hl.1 rfl (Nat.le_of_ble_eq_true rfl) dX5_findMembers_16 ⟨Nat.zero_le _, Nat.zero_le _⟩ hS (fun locs hS => ?_)
  have := U2_lt hB.1 (cl + 2)
  refine lv_iconst (v := zI 0) C.1 C.2.1 dX5_findMembers_19 (by decide) ?_
  refine z_readV C (As := [zN (U2 F (cl + 2)), zN 0]) (rest := []) (c_part0 l Z hM hB hP (U2 F (cl + 2)) (by omega) (by omega)) hM.pol rfl ⟨⟨zw_13_21, zw_2_19, zw_22_5⟩, zd_X7_part⟩ zw_13_19 zw_13_20 ⟨Nat.le_of_ble_eq_true rfl, Nat.le_of_ble_eq_true rfl⟩ ⟨rfl, rfl⟩ rfl hl.1 rfl (Nat.le_of_ble_eq_true rfl) dX5_findMembers_20 ⟨Nat.zero_le _, Nat.zero_le _⟩ hS (fun locs hS => ?_)
  have hel20 := e1_lt hB.1 tb (U2 F (cl + 2))
  refine lv_istore_n (lv' := [(2, zN (e1 F tb (U2 F (cl + 2)))), (1, .ref (ad 3)), (0, .ref (ad 0))]) C.1 C.2.1 dX5_findMembers_23 rfl hl (by decide) rfl (fun ls hl => ?_)
  refine lv_iconst (v := zI 1) C.1 C.2.1 dX5_findMembers_24 (by decide) ?_
  refine lv_istore_n (lv' := [(3, zN 1), (2, zN (e1 F tb (U2 F (cl + 2)))), (1, .ref (ad 3)), (0, .ref (ad 0))]) C.1 C.2.1 dX5_findMembers_25 rfl hl (by decide) rfl (fun ls hl => ?_)
  have loop : ∀ (fu : Nat) (k : Nat) (τ1 : mS) (H : Heap) (ls : Array Slot) (locs : List Loc), va_S (cA ad) s.heap H locs → isC Z H ad τ1 X → (1 ≤ k ∧ k ≤ U2 F 8 ∧ U2 F 8 < k + fu) → (chg [] [10] τ τ1) → (cSrc τ1 F n) → (cPl τ1 F tb (U2 F 8)) → (∀ j, 1 ≤ j → j < k → τ1.2.1 10 j = zI (mbC F tb mt cl nf nm j)) → lv_has ls 5 [(3, zN k), (2, zN (e1 F tb (U2 F (cl + 2)))), (1, .ref (ad 3)), (0, .ref (ad 0))] → W p l e (rmk 4) s m args below meth c H locs 0 0 Q (F0 m 26 ls []) := by
    intro fu
    induction fu with
    | zero =>
      intro k τ1 H ls locs hS hM hk hc hB hP hmb hl
      (exact absurd hk.2.2 (by omega))
    | succ fu ih_loop =>
      intro k τ1 H ls locs hS hM hk hc hB hP hmb hl
      refine lv_iload_n C.1 C.2.1 dX5_findMembers_26 rfl (lv_at hl 0 rfl) ?_
      refine lv_aload_n C.1 C.2.1 dX5_findMembers_27 rfl (lv_at hl 2 rfl) ?_
      refine z_get C (v := .int (τ1.1 1)) hM.pol rfl bi_wsX70 8 (by decide) zw_22_0 rfl rfl dX5_findMembers_28 ?_
      refine z_re (y := zI ((U2 F 8 : Nat) : Int)) hP.1 ?_
      refine y_icmp_ge (tgt := 108) C (a := ((k : Nat) : Int)) (b := ((U2 F 8 : Nat) : Int)) dX5_findMembers_31 (by decide) (by omega) (fun h31 => ?_) (fun h31 => ?_)
      · exact hret _ _ _ _ hS ⟨rfl, τ1, hM, hc, fun j h1 h2 => hmb j h1 (by omega)⟩ dX5_findMembers_108
      · refine lv_iconst (v := zI (-1)) C.1 C.2.1 dX5_findMembers_34 (by decide) ?_
        refine lv_istore (lv' := [(4, zV (-1)), (3, zN k), (2, zN (e1 F tb (U2 F (cl + 2)))), (1, .ref (ad 3)), (0, .ref (ad 0))]) C.1 C.2.1 dX5_findMembers_35 hl (by decide) rfl (fun ls hl => ?_)
        refine lv_aload_n C.1 C.2.1 dX5_findMembers_37 rfl (lv_at hl 3 rfl) ?_
        refine lv_bipush (v := zI 9) C.1 C.2.1 dX5_findMembers_38 (by decide) ?_
        refine lv_iload_n C.1 C.2.1 dX5_findMembers_40 rfl (lv_at hl 1 rfl) ?_
        refine z_readV C (As := [zN 9, zN k]) (rest := []) (c_X7_is l Z hM hB hP 9 (by decide) k rfl (by omega)) hM.pol rfl ⟨⟨zw_11_11, zw_2_19, zw_22_6⟩, zd_X7_is⟩ zw_11_9 zw_11_10 ⟨Nat.le_of_ble_eq_true rfl, Nat.le_of_ble_eq_true rfl⟩ ⟨rfl, rfl⟩ rfl hl.1 rfl (Nat.le_of_ble_eq_true rfl) dX5_findMembers_41 ⟨Nat.zero_le _, Nat.zero_le _⟩ hS (fun locs hS => ?_)
        refine y_ifb_eq (tgt := 66) C dX5_findMembers_44 (by decide) (fun h44 => ?_) (fun h44 => ?_)
        · refine lv_aload_n C.1 C.2.1 dX5_findMembers_66 rfl (lv_at hl 3 rfl) ?_
          refine lv_bipush (v := zI 10) C.1 C.2.1 dX5_findMembers_67 (by decide) ?_
          refine lv_iload_n C.1 C.2.1 dX5_findMembers_69 rfl (lv_at hl 1 rfl) ?_
          refine z_readV C (As := [zN 10, zN k]) (rest := []) (c_X7_is l Z hM hB hP 10 (by decide) k rfl (by omega)) hM.pol rfl ⟨⟨zw_11_11, zw_2_19, zw_22_6⟩, zd_X7_is⟩ zw_11_9 zw_11_10 ⟨Nat.le_of_ble_eq_true rfl, Nat.le_of_ble_eq_true rfl⟩ ⟨rfl, rfl⟩ rfl hl.1 rfl (Nat.le_of_ble_eq_true rfl) dX5_findMembers_70 ⟨Nat.zero_le _, Nat.zero_le _⟩ hS (fun locs hS => ?_)
          refine y_ifb_eq (tgt := 92) C dX5_findMembers_73 (by decide) (fun h73 => ?_) (fun h73 => ?_)
          · have hl : lv_has ls 5 [(4, zV (mbC F tb mt cl nf nm k)), (3, zN k), (2, zN (e1 F tb (U2 F (cl + 2)))), (1, .ref (ad 3)), (0, .ref (ad 0))] := by
              have e9 : zV (mbC F tb mt cl nf nm k) = zV (-1) := congrArg (fun x : Int => Value.int (zI x)) ((mbC_0 h44 h73 ⟨by omega, by omega⟩).symm)
              rw [e9]; exact hl
            refine lv_aload_n C.1 C.2.1 dX5_findMembers_92 rfl (lv_at hl 3 rfl) ?_
            refine z_get C (v := .ref (ad 10)) hM.pol rfl bi_wsX70 7 (by decide) zw_22_3 rfl rfl dX5_findMembers_93 ?_
            refine lv_iload_n C.1 C.2.1 dX5_findMembers_96 rfl (lv_at hl 1 rfl) ?_
            refine lv_iload C.1 C.2.1 dX5_findMembers_97 (lv_at hl 0 rfl) ?_
            refine z_callSN C (As := [.ref (ad 10), zN k, zV (mbC F tb mt cl nf nm k)]) (rest := []) (c_put l Z hM 10 (by decide) k rfl (by show _ < 500; omega) (zI (mbC F tb mt cl nf nm k))) ⟨⟨zw_10_12, zw_1_2⟩, zd_X11_put⟩ (by decide) zw_10_11 ⟨Nat.le_of_ble_eq_true rfl, Nat.le_of_ble_eq_true rfl⟩ ⟨rfl, rfl⟩ rfl hl.1 rfl (Nat.le_of_ble_eq_true rfl) dX5_findMembers_99 ⟨Nat.zero_le _, Nat.zero_le _⟩ hS (fun _ h => ⟨10, by decide, h⟩) (fun v H locs hp hS _ _ => ?_)
            obtain ⟨rfl, hM⟩ := hp
            have hB : cSrc (sf τ1 10 (upd (τ1.2.1 10) k (zI (mbC F tb mt cl nf nm k)))) F n := hB.sf (by decide)
            have hP : cPl (sf τ1 10 (upd (τ1.2.1 10) k (zI (mbC F tb mt cl nf nm k)))) F tb (U2 F 8) := hP.sf (by decide)
            refine lv_iinc (v := zI ((k + 1 : Nat) : Int)) (lv' := [(3, zN (k + 1)), (4, zV (mbC F tb mt cl nf nm k)), (2, zN (e1 F tb (U2 F (cl + 2)))), (1, .ref (ad 3)), (0, .ref (ad 0))]) C.1 C.2.1 dX5_findMembers_102 hl (k := 1) rfl (zI_add _ _) (by decide) rfl (fun ls hl => ?_)
            refine lv_goto (tgt := 26) C.1 C.2.1 dX5_findMembers_105 (by decide) ?_
            exact ih_loop (k + 1) _ _ ls _ hS hM (by omega) (chg_sf (by decide) hc) hB hP (fun j h1 h2 => (congrFun (sf_at τ1 10 _) j).trans (by rcases Nat.lt_succ_iff_lt_or_eq.mp h2 with h | h; (exact (upd_ne (by omega)).trans (hmb j h1 h)); (subst h; exact upd_2))) (lv_sub hl [0, 2, 3, 4] rfl)
          · refine lv_aload_n C.1 C.2.1 dX5_findMembers_76 rfl (lv_at hl 4 rfl) ?_
            refine lv_iload_n C.1 C.2.1 dX5_findMembers_77 rfl (lv_at hl 2 rfl) ?_
            refine lv_iload_n C.1 C.2.1 dX5_findMembers_78 rfl (lv_at hl 1 rfl) ?_
            refine lv_aload_n C.1 C.2.1 dX5_findMembers_79 rfl (lv_at hl 4 rfl) ?_
            refine z_get C (v := .ref (ad 12)) hM.img rfl bi_wsX20 3 (by decide) zw_20_9 rfl rfl dX5_findMembers_80 ?_
            refine lv_aload_n C.1 C.2.1 dX5_findMembers_83 rfl (lv_at hl 4 rfl) ?_
            refine z_get C (v := .int (τ1.1 3)) hM.img rfl bi_wsX20 7 (by decide) zw_20_8 rfl rfl dX5_findMembers_84 ?_
            refine z_re (y := zI ((nm : Nat) : Int)) ((hc.1 3 (by decide)).trans hL.2.2.2.1) ?_
            refine z_readS C (As := [.ref (ad 0), zN (e1 F tb (U2 F (cl + 2))), zN k, .ref (ad 12), zN nm]) (rest := []) (c_fm12 l Z hM hB (f := (fun j => mt (nf + j))) (fun j hj => (congrFun (hc.2.1 12 (by decide)) j).trans (q9 j hj)) (by omega) hP p4 hx6 (fun j hj => (hp.m2 hj).1) (fun j hj => by have h := x9_nm hx9 (j := nf + j) (by omega); exact ⟨⟨h.1.2.1, h.1.2.2⟩, ⟨h.2.1.2.1, h.2.1.2.2⟩⟩) (tn := e1 F tb (U2 F (cl + 2))) (k := k) ⟨htc.2.1, htc.2.2⟩ ⟨(isE_t h73).1, (isE_t h73).2.1⟩ (Or.inr (isE_t h73).2.2)) ⟨⟨zw_22_9, zw_20_6, zw_22_7⟩, zd_X5_findMember⟩ zw_22_8 ⟨Nat.le_of_ble_eq_true rfl, Nat.le_of_ble_eq_true rfl⟩ ⟨rfl, rfl⟩ rfl hl.1 rfl (Nat.le_of_ble_eq_true rfl) dX5_findMembers_87 ⟨Nat.zero_le _, Nat.zero_le _⟩ hS (fun locs hS => ?_)
            refine z_re (y := zI (mbC F tb mt cl nf nm k)) (zI_c (mbC_10 h73 hr11b)) ?_
            refine lv_istore (lv' := [(4, zV (mbC F tb mt cl nf nm k)), (3, zN k), (2, zN (e1 F tb (U2 F (cl + 2)))), (1, .ref (ad 3)), (0, .ref (ad 0))]) C.1 C.2.1 dX5_findMembers_90 hl (by decide) rfl (fun ls hl => ?_)
            refine lv_aload_n C.1 C.2.1 dX5_findMembers_92 rfl (lv_at hl 3 rfl) ?_
            refine z_get C (v := .ref (ad 10)) hM.pol rfl bi_wsX70 7 (by decide) zw_22_3 rfl rfl dX5_findMembers_93 ?_
            refine lv_iload_n C.1 C.2.1 dX5_findMembers_96 rfl (lv_at hl 1 rfl) ?_
            refine lv_iload C.1 C.2.1 dX5_findMembers_97 (lv_at hl 0 rfl) ?_
            refine z_callSN C (As := [.ref (ad 10), zN k, zV (mbC F tb mt cl nf nm k)]) (rest := []) (c_put l Z hM 10 (by decide) k rfl (by show _ < 500; omega) (zI (mbC F tb mt cl nf nm k))) ⟨⟨zw_10_12, zw_1_2⟩, zd_X11_put⟩ (by decide) zw_10_11 ⟨Nat.le_of_ble_eq_true rfl, Nat.le_of_ble_eq_true rfl⟩ ⟨rfl, rfl⟩ rfl hl.1 rfl (Nat.le_of_ble_eq_true rfl) dX5_findMembers_99 ⟨Nat.zero_le _, Nat.zero_le _⟩ hS (fun _ h => ⟨10, by decide, h⟩) (fun v H locs hp hS _ _ => ?_)
            obtain ⟨rfl, hM⟩ := hp
            have hB : cSrc (sf τ1 10 (upd (τ1.2.1 10) k (zI (mbC F tb mt cl nf nm k)))) F n := hB.sf (by decide)
            have hP : cPl (sf τ1 10 (upd (τ1.2.1 10) k (zI (mbC F tb mt cl nf nm k)))) F tb (U2 F 8) := hP.sf (by decide)
            refine lv_iinc (v := zI ((k + 1 : Nat) : Int)) (lv' := [(3, zN (k + 1)), (4, zV (mbC F tb mt cl nf nm k)), (2, zN (e1 F tb (U2 F (cl + 2)))), (1, .ref (ad 3)), (0, .ref (ad 0))]) C.1 C.2.1 dX5_findMembers_102 hl (k := 1) rfl (zI_add _ _) (by decide) rfl (fun ls hl => ?_)
            refine lv_goto (tgt := 26) C.1 C.2.1 dX5_findMembers_105 (by decide) ?_
            exact ih_loop (k + 1) _ _ ls _ hS hM (by omega) (chg_sf (by decide) hc) hB hP (fun j h1 h2 => (congrFun (sf_at τ1 10 _) j).trans (by rcases Nat.lt_succ_iff_lt_or_eq.mp h2 with h | h; (exact (upd_ne (by omega)).trans (hmb j h1 h)); (subst h; exact upd_2))) (lv_sub hl [0, 2, 3, 4] rfl)
        · refine lv_aload_n C.1 C.2.1 dX5_findMembers_47 rfl (lv_at hl 4 rfl) ?_
          refine lv_iload_n C.1 C.2.1 dX5_findMembers_48 rfl (lv_at hl 2 rfl) ?_
          refine lv_iload_n C.1 C.2.1 dX5_findMembers_49 rfl (lv_at hl 1 rfl) ?_
          refine lv_aload_n C.1 C.2.1 dX5_findMembers_50 rfl (lv_at hl 4 rfl) ?_
          refine z_get C (v := .ref (ad 11)) hM.img rfl bi_wsX20 2 (by decide) zw_22_1 rfl rfl dX5_findMembers_51 ?_
          refine lv_aload_n C.1 C.2.1 dX5_findMembers_54 rfl (lv_at hl 4 rfl) ?_
          refine z_get C (v := .int (τ1.1 2)) hM.img rfl bi_wsX20 6 (by decide) zw_22_2 rfl rfl dX5_findMembers_55 ?_
          refine z_re (y := zI ((nf : Nat) : Int)) ((hc.1 2 (by decide)).trans hL.2.2.1) ?_
          refine z_readS C (As := [.ref (ad 0), zN (e1 F tb (U2 F (cl + 2))), zN k, .ref (ad 11), zN nf]) (rest := []) (c_fm11 l Z hM hB (f := mt) (fun j hj => (congrFun (hc.2.1 11 (by decide)) j).trans (q8 j hj)) (by omega) hP p4 hx6 (fun j hj => (hp.m1 hj).1) (fun j hj => by have h := x9_nm hx9 (j := j) (by omega); exact ⟨⟨h.1.2.1, h.1.2.2⟩, ⟨h.2.1.2.1, h.2.1.2.2⟩⟩) (tn := e1 F tb (U2 F (cl + 2))) (k := k) ⟨htc.2.1, htc.2.2⟩ ⟨(isE_t h44).1, (isE_t h44).2.1⟩ (Or.inl (isE_t h44).2.2)) ⟨⟨zw_22_9, zw_20_6, zw_22_7⟩, zd_X5_findMember⟩ zw_22_8 ⟨Nat.le_of_ble_eq_true rfl, Nat.le_of_ble_eq_true rfl⟩ ⟨rfl, rfl⟩ rfl hl.1 rfl (Nat.le_of_ble_eq_true rfl) dX5_findMembers_58 ⟨Nat.zero_le _, Nat.zero_le _⟩ hS (fun locs hS => ?_)
          refine z_re (y := zI (mbC F tb mt cl nf nm k)) (zI_c (mbC_9 h44 hr11a)) ?_
          refine lv_istore (lv' := [(4, zV (mbC F tb mt cl nf nm k)), (3, zN k), (2, zN (e1 F tb (U2 F (cl + 2)))), (1, .ref (ad 3)), (0, .ref (ad 0))]) C.1 C.2.1 dX5_findMembers_61 hl (by decide) rfl (fun ls hl => ?_)
          refine lv_goto (tgt := 92) C.1 C.2.1 dX5_findMembers_63 (by decide) ?_
          refine lv_aload_n C.1 C.2.1 dX5_findMembers_92 rfl (lv_at hl 3 rfl) ?_
          refine z_get C (v := .ref (ad 10)) hM.pol rfl bi_wsX70 7 (by decide) zw_22_3 rfl rfl dX5_findMembers_93 ?_
          refine lv_iload_n C.1 C.2.1 dX5_findMembers_96 rfl (lv_at hl 1 rfl) ?_
          refine lv_iload C.1 C.2.1 dX5_findMembers_97 (lv_at hl 0 rfl) ?_
          refine z_callSN C (As := [.ref (ad 10), zN k, zV (mbC F tb mt cl nf nm k)]) (rest := []) (c_put l Z hM 10 (by decide) k rfl (by show _ < 500; omega) (zI (mbC F tb mt cl nf nm k))) ⟨⟨zw_10_12, zw_1_2⟩, zd_X11_put⟩ (by decide) zw_10_11 ⟨Nat.le_of_ble_eq_true rfl, Nat.le_of_ble_eq_true rfl⟩ ⟨rfl, rfl⟩ rfl hl.1 rfl (Nat.le_of_ble_eq_true rfl) dX5_findMembers_99 ⟨Nat.zero_le _, Nat.zero_le _⟩ hS (fun _ h => ⟨10, by decide, h⟩) (fun v H locs hp hS _ _ => ?_)
          obtain ⟨rfl, hM⟩ := hp
          have hB : cSrc (sf τ1 10 (upd (τ1.2.1 10) k (zI (mbC F tb mt cl nf nm k)))) F n := hB.sf (by decide)
          have hP : cPl (sf τ1 10 (upd (τ1.2.1 10) k (zI (mbC F tb mt cl nf nm k)))) F tb (U2 F 8) := hP.sf (by decide)
          refine lv_iinc (v := zI ((k + 1 : Nat) : Int)) (lv' := [(3, zN (k + 1)), (4, zV (mbC F tb mt cl nf nm k)), (2, zN (e1 F tb (U2 F (cl + 2)))), (1, .ref (ad 3)), (0, .ref (ad 0))]) C.1 C.2.1 dX5_findMembers_102 hl (k := 1) rfl (zI_add _ _) (by decide) rfl (fun ls hl => ?_)
          refine lv_goto (tgt := 26) C.1 C.2.1 dX5_findMembers_105 (by decide) ?_
          exact ih_loop (k + 1) _ _ ls _ hS hM (by omega) (chg_sf (by decide) hc) hB hP (fun j h1 h2 => (congrFun (sf_at τ1 10 _) j).trans (by rcases Nat.lt_succ_iff_lt_or_eq.mp h2 with h | h; (exact (upd_ne (by omega)).trans (hmb j h1 h)); (subst h; exact upd_2))) (lv_sub hl [0, 2, 3, 4] rfl)
  exact loop (U2 F 8 + 1) 1 _ _ ls _ hS hM (by omega) chg.rf hB hP (fun j h1 h2 => by omega) hl
