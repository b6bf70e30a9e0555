/-! the component: rules 6 to 9 -/
def oI : Option Nat → Int
  | none => -1
  | some q => (q : Int)
theorem oI_c (S : Option Nat) : S = none ∨ ∃ q, S = some q := by cases S; exact Or.inl rfl; exact Or.inr ⟨_, rfl⟩
theorem fst1_q {g : Nat → Option Nat} {q : Nat} : ∀ c i, fst1 g c i = some q → ∃ j, i ≤ j ∧ j < i + c ∧ g j = some q := by
  intro c
  induction c with
  | zero => intro i h; cases h
  | succ c ih =>
    intro i h
    unfold fst1 at h
    cases e : g i with
    | some r => rw [e] at h; cases h; exact ⟨i, Nat.le_refl _, by omega, e⟩
    | none => rw [e] at h; obtain ⟨j, a, b, c'⟩ := ih _ h; exact ⟨j, by omega, by omega, c'⟩
theorem fst1_add {g : Nat → Option Nat} {b : Nat} : ∀ a i, fst1 g (a + b) i = (fst1 g a i).or (fst1 g b (i + a)) := by
  intro a
  induction a with
  | zero => intro i; rw [Nat.zero_add]; rfl
  | succ a ih =>
    intro i
    rw [show a + 1 + b = (a + b) + 1 by omega]
    cases e : g i with
    | some r => rw [fst1_e e, fst1_e e]; rfl
    | none => rw [fst1_s e, fst1_s e, ih, show i + 1 + a = i + (a + 1) by omega]
theorem fst1_sh {g : Nat → Option Nat} {k : Nat} : ∀ c i, fst1 g c (k + i) = fst1 (fun j => g (k + j)) c i := by
  intro c
  induction c with
  | zero => intro i; rfl
  | succ c ih =>
    intro i
    cases e : g (k + i) with
    | some r => rw [fst1_e e, fst1_e (g := fun j => g (k + j)) e]
    | none => rw [fst1_s e, fst1_s (g := fun j => g (k + j)) e, Nat.add_assoc, ih]
section CP2
variable {ad : Nat → Nat} {X : List (Nat × va_E)} {F tb : Nat → Nat} {n pc : Nat}
theorem c_part0 (l : Launch) (Z : zT) {H : Heap} {τ : mS} (hM : isC Z H ad τ X) (hB : cSrc τ F n) (hP : cPl τ F tb pc) (k : Nat) (hk : k < pc) (hin : tb k + 3 ≤ n) : zP l Z yX7_part cX7_part 3 (some .int) (rmk 2) [.ref (ad 3), zN k, zN 0] H (zN (e1 F tb k)) := c_X7_part l Z hM hB hP 0 (by decide) k rfl hk (by omega)
theorem c_part1 (l : Launch) (Z : zT) {H : Heap} {τ : mS} (hM : isC Z H ad τ X) (hB : cSrc τ F n) (hP : cPl τ F tb pc) (k : Nat) (hk : k < pc) (hin : tb k + 5 ≤ n) : zP l Z yX7_part cX7_part 3 (some .int) (rmk 2) [.ref (ad 3), zN k, zN 1] H (zN (e2 F tb k)) := c_X7_part l Z hM hB hP 1 (by decide) k rfl hk (by omega)
end CP2
theorem e1_lt {F : Nat → Nat} (hF : isF F) (tb : Nat → Nat) (k : Nat) : e1 F tb k < 65536 := U2_lt hF _
theorem e2_lt {F : Nat → Nat} (hF : isF F) (tb : Nat → Nat) (k : Nat) : e2 F tb k < 65536 := U2_lt hF _
theorem pPl.t7 {F : Nat → Nat} {n : Nat} {tb : Nat → Nat} {pc k : Nat} (h : pPl F n tb pc) (ht : tg F tb k = 7) : tb k + 3 ≤ n := (h.tgs ht (by decide) (by decide)).2.2.2.1
theorem pPl.t5 {F : Nat → Nat} {n : Nat} {tb : Nat → Nat} {pc k : Nat} (h : pPl F n tb pc) (ht : tg F tb k = 9 ∨ tg F tb k = 10 ∨ tg F tb k = 12) : tb k + 5 ≤ n := by
  rcases ht with ht | ht | ht
  · exact (h.tgs ht (by decide) (by decide)).2.2.2.1
  · exact (h.tgs ht (by decide) (by decide)).2.2.2.1
  · exact (h.tgs ht (by decide) (by decide)).2.2.2.1
theorem pAt.s4 {F : Nat → Nat} {n a j : Nat} (h : pAt F n a) (hF : isF F) (hn : n ≤ 16000) (hj : j < U2 F a) : atp F a j + 6 ≤ n ∧ ((atp F a j : Nat) : Int) + (6 + S4 F (atp F a j + 2)) = ((atp F a (j + 1) : Nat) : Int) ∧ 0 ≤ S4 F (atp F a j + 2) ∧ S4 F (atp F a j + 2) ≤ 16000 := by
  have h1 := (h.2.2 j hj).1
  have h2 := S4_U4 hF (atp F a j + 2)
  have h3 := atp_s F a j
  refine ⟨by omega, ?_, ?_, ?_⟩
  · omega
  · omega
  · omega

set_option maxHeartbeats 4000000 in
set_option maxRecDepth 20000 in
theorem c_X6_pointsToItsSorts (l : Launch) (Z : zT) {H : Heap} {ad : Nat → Nat} {τ : mS} {X : List (Nat × va_E)} (hM : isC Z H ad τ X) {F : Nat → Nat} {n : Nat} (hB : cSrc τ F n) {tb : Nat → Nat} {pc : Nat} (hP : cPl τ F tb pc) (hpp : pPl F n tb pc) (k : Nat) (hk : k < pc) : zP l Z yX6_pointsToItsSorts cX6_pointsToItsSorts 2 (some .boolean) (rmk 3) [.ref (ad 3), zN k] H (zV (bI (good6 F tb pc k))) := by
  have hn := hB.2.2.2
  have hp1 := hP.2.1
  have htl := tg_lt hB.1 tb k
  refine zM.introI (own := RX6) ⟨by decide, rfl⟩ (Nat.le_of_ble_eq_true rfl) ?_
  intro p e s m args below meth c Q ls hH C hl hret
  have hS : va_S (fun _ => False) s.heap H [] := by rw [hH]; exact va_S.rf
  have hl : lv_has ls 2 [(0, .ref (ad 3)), (1, zN k)] := hl
  refine lv_aload_n C.1 C.2.1 dX6_pointsToItsSorts_0 rfl (lv_at hl 0 rfl) ?_
  refine z_get C (v := .ref (ad 5)) hM.pol rfl bi_wsX70 2 (by decide) zw_13_17 rfl rfl dX6_pointsToItsSorts_1 ?_
  refine lv_iload_n C.1 C.2.1 dX6_pointsToItsSorts_4 rfl (lv_at hl 1 rfl) ?_
  refine z_readSN C (As := [.ref (ad 5), zN k]) (rest := []) (c_at l Z (hM.row 5 (by decide)) (by decide) k rfl (by show _ < 500; omega)) ⟨⟨zw_11_13, zw_1_2⟩, zd_X11_at⟩ (by decide) zw_11_12 ⟨Nat.le_of_ble_eq_true rfl, Nat.le_of_ble_eq_true rfl⟩ ⟨rfl, rfl⟩ rfl hl.1 rfl (Nat.le_of_ble_eq_true rfl) dX6_pointsToItsSorts_5 ⟨Nat.zero_le _, Nat.zero_le _⟩ hS (fun locs hS => ?_)
  refine z_re (y := zI ((tg F tb k : Nat) : Int)) ((hP.2.2 k (by omega)).2.1) ?_
  rcases (show ((tg F tb k : Nat) : Int) = 7 ∨ ((tg F tb k : Nat) : Int) = 8 ∨ ((tg F tb k : Nat) : Int) = 9 ∨ ((tg F tb k : Nat) : Int) = 10 ∨ ((tg F tb k : Nat) : Int) = 11 ∨ ((tg F tb k : Nat) : Int) = 12 ∨ (((tg F tb k : Nat) : Int) < 7 ∨ 12 < ((tg F tb k : Nat) : Int)) by omega) with h8 | h8 | h8 | h8 | h8 | h8 | h8
  · refine y_tabIn C 7 h8 dX6_pointsToItsSorts_8 (by decide) rfl (tgt := 48) (by decide) ?_
    have ht7 := hpp.t7 (k := k) (by omega)
    refine lv_aload_n C.1 C.2.1 dX6_pointsToItsSorts_48 rfl (lv_at hl 0 rfl) ?_
    refine lv_iconst (v := zI 1) C.1 C.2.1 dX6_pointsToItsSorts_49 (by decide) ?_
    refine lv_aload_n C.1 C.2.1 dX6_pointsToItsSorts_50 rfl (lv_at hl 0 rfl) ?_
    refine lv_iload_n C.1 C.2.1 dX6_pointsToItsSorts_51 rfl (lv_at hl 1 rfl) ?_
    refine lv_iconst (v := zI 0) C.1 C.2.1 dX6_pointsToItsSorts_52 (by decide) ?_
    refine z_readV C (As := [zN k, zN 0]) (rest := [zN 1, .ref (ad 3)]) (c_part0 l Z hM hB hP k (by omega) (by omega)) hM.pol rfl ⟨⟨zw_13_21, zw_2_19, zw_13_18⟩, zd_X7_part⟩ zw_13_19 zw_13_20 ⟨Nat.le_of_ble_eq_true rfl, Nat.le_of_ble_eq_true rfl⟩ ⟨rfl, rfl⟩ rfl hl.1 rfl (Nat.le_of_ble_eq_true rfl) dX6_pointsToItsSorts_53 ⟨Nat.zero_le _, Nat.zero_le _⟩ hS (fun locs hS => ?_)
    have hel53 := e1_lt hB.1 tb k
    refine z_readV C (As := [zN 1, zN (e1 F tb k)]) (rest := []) (c_X7_is l Z hM hB hP 1 (by decide) (e1 F tb k) rfl (by omega)) hM.pol rfl ⟨⟨zw_11_11, zw_2_19, zw_13_22⟩, zd_X7_is⟩ zw_11_9 zw_11_10 ⟨Nat.le_of_ble_eq_true rfl, Nat.le_of_ble_eq_true rfl⟩ ⟨rfl, rfl⟩ rfl hl.1 rfl (Nat.le_of_ble_eq_true rfl) dX6_pointsToItsSorts_56 ⟨Nat.zero_le _, Nat.zero_le _⟩ hS (fun locs hS => ?_)
    exact hret _ _ _ _ (zI (bI (isE F tb pc (e1 F tb k) 1))) hS ⟨congrArg (fun x : Int => some (zV x)) (by unfold good6; rw [if_pos (by omega)]), rfl⟩ (n_bool _) dX6_pointsToItsSorts_59
  · refine y_tabIn C 8 h8 dX6_pointsToItsSorts_8 (by decide) rfl (tgt := 130) (by decide) ?_
    refine lv_iconst (v := zI 1) C.1 C.2.1 dX6_pointsToItsSorts_130 (by decide) ?_
    exact hret _ _ _ _ (zI 1) hS ⟨congrArg (fun x : Int => some (zV x)) (by unfold good6; rw [if_neg (by omega), if_neg (by omega), if_neg (by omega)]; rfl), rfl⟩ rfl dX6_pointsToItsSorts_131
  · refine y_tabIn C 9 h8 dX6_pointsToItsSorts_8 (by decide) rfl (tgt := 94) (by decide) ?_
    have ht5 := hpp.t5 (k := k) (by omega)
    refine lv_aload_n C.1 C.2.1 dX6_pointsToItsSorts_94 rfl (lv_at hl 0 rfl) ?_
    refine lv_bipush (v := zI 7) C.1 C.2.1 dX6_pointsToItsSorts_95 (by decide) ?_
    refine lv_aload_n C.1 C.2.1 dX6_pointsToItsSorts_97 rfl (lv_at hl 0 rfl) ?_
    refine lv_iload_n C.1 C.2.1 dX6_pointsToItsSorts_98 rfl (lv_at hl 1 rfl) ?_
    refine lv_iconst (v := zI 0) C.1 C.2.1 dX6_pointsToItsSorts_99 (by decide) ?_
    refine z_readV C (As := [zN k, zN 0]) (rest := [zN 7, .ref (ad 3)]) (c_part0 l Z hM hB hP k (by omega) (by omega)) hM.pol rfl ⟨⟨zw_13_21, zw_2_19, zw_13_18⟩, zd_X7_part⟩ zw_13_19 zw_13_20 ⟨Nat.le_of_ble_eq_true rfl, Nat.le_of_ble_eq_true rfl⟩ ⟨rfl, rfl⟩ rfl hl.1 rfl (Nat.le_of_ble_eq_true rfl) dX6_pointsToItsSorts_100 ⟨Nat.zero_le _, Nat.zero_le _⟩ hS (fun locs hS => ?_)
    have hel100 := e1_lt hB.1 tb k
    refine z_readV C (As := [zN 7, zN (e1 F tb k)]) (rest := []) (c_X7_is l Z hM hB hP 7 (by decide) (e1 F tb k) rfl (by omega)) hM.pol rfl ⟨⟨zw_11_11, zw_2_19, zw_13_22⟩, zd_X7_is⟩ zw_11_9 zw_11_10 ⟨Nat.le_of_ble_eq_true rfl, Nat.le_of_ble_eq_true rfl⟩ ⟨rfl, rfl⟩ rfl hl.1 rfl (Nat.le_of_ble_eq_true rfl) dX6_pointsToItsSorts_103 ⟨Nat.zero_le _, Nat.zero_le _⟩ hS (fun locs hS => ?_)
    refine y_ifb_eq (tgt := 128) C dX6_pointsToItsSorts_106 (by decide) (fun h106 => ?_) (fun h106 => ?_)
    · refine lv_iconst (v := zI 0) C.1 C.2.1 dX6_pointsToItsSorts_128 (by decide) ?_
      exact hret _ _ _ _ (zI 0) hS ⟨congrArg (fun x : Int => some (zV x)) (by unfold good6; rw [if_neg (by omega), if_neg (by omega), if_pos (by omega)]; (first | (rw [h106, h121]; rfl) | (rw [h106]; rfl))), rfl⟩ rfl dX6_pointsToItsSorts_129
    · refine lv_aload_n C.1 C.2.1 dX6_pointsToItsSorts_109 rfl (lv_at hl 0 rfl) ?_
      refine lv_bipush (v := zI 12) C.1 C.2.1 dX6_pointsToItsSorts_110 (by decide) ?_
      refine lv_aload_n C.1 C.2.1 dX6_pointsToItsSorts_112 rfl (lv_at hl 0 rfl) ?_
      refine lv_iload_n C.1 C.2.1 dX6_pointsToItsSorts_113 rfl (lv_at hl 1 rfl) ?_
      refine lv_iconst (v := zI 1) C.1 C.2.1 dX6_pointsToItsSorts_114 (by decide) ?_
      refine z_readV C (As := [zN k, zN 1]) (rest := [zN 12, .ref (ad 3)]) (c_part1 l Z hM hB hP k (by omega) (by omega)) hM.pol rfl ⟨⟨zw_13_21, zw_2_19, zw_13_18⟩, zd_X7_part⟩ zw_13_19 zw_13_20 ⟨Nat.le_of_ble_eq_true rfl, Nat.le_of_ble_eq_true rfl⟩ ⟨rfl, rfl⟩ rfl hl.1 rfl (Nat.le_of_ble_eq_true rfl) dX6_pointsToItsSorts_115 ⟨Nat.zero_le _, Nat.zero_le _⟩ hS (fun locs hS => ?_)
      have hel115 := e2_lt hB.1 tb k
      refine z_readV C (As := [zN 12, zN (e2 F tb k)]) (rest := []) (c_X7_is l Z hM hB hP 12 (by decide) (e2 F tb k) rfl (by omega)) hM.pol rfl ⟨⟨zw_11_11, zw_2_19, zw_13_22⟩, zd_X7_is⟩ zw_11_9 zw_11_10 ⟨Nat.le_of_ble_eq_true rfl, Nat.le_of_ble_eq_true rfl⟩ ⟨rfl, rfl⟩ rfl hl.1 rfl (Nat.le_of_ble_eq_true rfl) dX6_pointsToItsSorts_118 ⟨Nat.zero_le _, Nat.zero_le _⟩ hS (fun locs hS => ?_)
      refine y_ifb_eq (tgt := 128) C dX6_pointsToItsSorts_121 (by decide) (fun h121 => ?_) (fun h121 => ?_)
      · refine lv_iconst (v := zI 0) C.1 C.2.1 dX6_pointsToItsSorts_128 (by decide) ?_
        exact hret _ _ _ _ (zI 0) hS ⟨congrArg (fun x : Int => some (zV x)) (by unfold good6; rw [if_neg (by omega), if_neg (by omega), if_pos (by omega)]; (first | (rw [h106, h121]; rfl) | (rw [h106]; rfl))), rfl⟩ rfl dX6_pointsToItsSorts_129
      · refine lv_iconst (v := zI 1) C.1 C.2.1 dX6_pointsToItsSorts_124 (by decide) ?_
        refine lv_goto (tgt := 129) C.1 C.2.1 dX6_pointsToItsSorts_125 (by decide) ?_
        exact hret _ _ _ _ (zI 1) hS ⟨congrArg (fun x : Int => some (zV x)) (by unfold good6; rw [if_neg (by omega), if_neg (by omega), if_pos (by omega)]; (first | (rw [h106, h121]; rfl) | (rw [h106]; rfl))), rfl⟩ rfl dX6_pointsToItsSorts_129
  · refine y_tabIn C 10 h8 dX6_pointsToItsSorts_8 (by decide) rfl (tgt := 94) (by decide) ?_
    have ht5 := hpp.t5 (k := k) (by omega)
    refine lv_aload_n C.1 C.2.1 dX6_pointsToItsSorts_94 rfl (lv_at hl 0 rfl) ?_
    refine lv_bipush (v := zI 7) C.1 C.2.1 dX6_pointsToItsSorts_95 (by decide) ?_
    refine lv_aload_n C.1 C.2.1 dX6_pointsToItsSorts_97 rfl (lv_at hl 0 rfl) ?_
    refine lv_iload_n C.1 C.2.1 dX6_pointsToItsSorts_98 rfl (lv_at hl 1 rfl) ?_
    refine lv_iconst (v := zI 0) C.1 C.2.1 dX6_pointsToItsSorts_99 (by decide) ?_
    refine z_readV C (As := [zN k, zN 0]) (rest := [zN 7, .ref (ad 3)]) (c_part0 l Z hM hB hP k (by omega) (by omega)) hM.pol rfl ⟨⟨zw_13_21, zw_2_19, zw_13_18⟩, zd_X7_part⟩ zw_13_19 zw_13_20 ⟨Nat.le_of_ble_eq_true rfl, Nat.le_of_ble_eq_true rfl⟩ ⟨rfl, rfl⟩ rfl hl.1 rfl (Nat.le_of_ble_eq_true rfl) dX6_pointsToItsSorts_100 ⟨Nat.zero_le _, Nat.zero_le _⟩ hS (fun locs hS => ?_)
    have hel100 := e1_lt hB.1 tb k
    refine z_readV C (As := [zN 7, zN (e1 F tb k)]) (rest := []) (c_X7_is l Z hM hB hP 7 (by decide) (e1 F tb k) rfl (by omega)) hM.pol rfl ⟨⟨zw_11_11, zw_2_19, zw_13_22⟩, zd_X7_is⟩ zw_11_9 zw_11_10 ⟨Nat.le_of_ble_eq_true rfl, Nat.le_of_ble_eq_true rfl⟩ ⟨rfl, rfl⟩ rfl hl.1 rfl (Nat.le_of_ble_eq_true rfl) dX6_pointsToItsSorts_103 ⟨Nat.zero_le _, Nat.zero_le _⟩ hS (fun locs hS => ?_)
    refine y_ifb_eq (tgt := 128) C dX6_pointsToItsSorts_106 (by decide) (fun h106 => ?_) (fun h106 => ?_)
    · refine lv_iconst (v := zI 0) C.1 C.2.1 dX6_pointsToItsSorts_128 (by decide) ?_
      exact hret _ _ _ _ (zI 0) hS ⟨congrArg (fun x : Int => some (zV x)) (by unfold good6; rw [if_neg (by omega), if_neg (by omega), if_pos (by omega)]; (first | (rw [h106, h121]; rfl) | (rw [h106]; rfl))), rfl⟩ rfl dX6_pointsToItsSorts_129
    · refine lv_aload_n C.1 C.2.1 dX6_pointsToItsSorts_109 rfl (lv_at hl 0 rfl) ?_
      refine lv_bipush (v := zI 12) C.1 C.2.1 dX6_pointsToItsSorts_110 (by decide) ?_
      refine lv_aload_n C.1 C.2.1 dX6_pointsToItsSorts_112 rfl (lv_at hl 0 rfl) ?_
      refine lv_iload_n C.1 C.2.1 dX6_pointsToItsSorts_113 rfl (lv_at hl 1 rfl) ?_
      refine lv_iconst (v := zI 1) C.1 C.2.1 dX6_pointsToItsSorts_114 (by decide) ?_
      refine z_readV C (As := [zN k, zN 1]) (rest := [zN 12, .ref (ad 3)]) (c_part1 l Z hM hB hP k (by omega) (by omega)) hM.pol rfl ⟨⟨zw_13_21, zw_2_19, zw_13_18⟩, zd_X7_part⟩ zw_13_19 zw_13_20 ⟨Nat.le_of_ble_eq_true rfl, Nat.le_of_ble_eq_true rfl⟩ ⟨rfl, rfl⟩ rfl hl.1 rfl (Nat.le_of_ble_eq_true rfl) dX6_pointsToItsSorts_115 ⟨Nat.zero_le _, Nat.zero_le _⟩ hS (fun locs hS => ?_)
      have hel115 := e2_lt hB.1 tb k
      refine z_readV C (As := [zN 12, zN (e2 F tb k)]) (rest := []) (c_X7_is l Z hM hB hP 12 (by decide) (e2 F tb k) rfl (by omega)) hM.pol rfl ⟨⟨zw_11_11, zw_2_19, zw_13_22⟩, zd_X7_is⟩ zw_11_9 zw_11_10 ⟨Nat.le_of_ble_eq_true rfl, Nat.le_of_ble_eq_true rfl⟩ ⟨rfl, rfl⟩ rfl hl.1 rfl (Nat.le_of_ble_eq_true rfl) dX6_pointsToItsSorts_118 ⟨Nat.zero_le _, Nat.zero_le _⟩ hS (fun locs hS => ?_)
      refine y_ifb_eq (tgt := 128) C dX6_pointsToItsSorts_121 (by decide) (fun h121 => ?_) (fun h121 => ?_)
      · refine lv_iconst (v := zI 0) C.1 C.2.1 dX6_pointsToItsSorts_128 (by decide) ?_
        exact hret _ _ _ _ (zI 0) hS ⟨congrArg (fun x : Int => some (zV x)) (by unfold good6; rw [if_neg (by omega), if_neg (by omega), if_pos (by omega)]; (first | (rw [h106, h121]; rfl) | (rw [h106]; rfl))), rfl⟩ rfl dX6_pointsToItsSorts_129
      · refine lv_iconst (v := zI 1) C.1 C.2.1 dX6_pointsToItsSorts_124 (by decide) ?_
        refine lv_goto (tgt := 129) C.1 C.2.1 dX6_pointsToItsSorts_125 (by decide) ?_
        exact hret _ _ _ _ (zI 1) hS ⟨congrArg (fun x : Int => some (zV x)) (by unfold good6; rw [if_neg (by omega), if_neg (by omega), if_pos (by omega)]; (first | (rw [h106, h121]; rfl) | (rw [h106]; rfl))), rfl⟩ rfl dX6_pointsToItsSorts_129
  · refine y_tabIn C 11 h8 dX6_pointsToItsSorts_8 (by decide) rfl (tgt := 130) (by decide) ?_
    refine lv_iconst (v := zI 1) C.1 C.2.1 dX6_pointsToItsSorts_130 (by decide) ?_
    exact hret _ _ _ _ (zI 1) hS ⟨congrArg (fun x : Int => some (zV x)) (by unfold good6; rw [if_neg (by omega), if_neg (by omega), if_neg (by omega)]; rfl), rfl⟩ rfl dX6_pointsToItsSorts_131
  · refine y_tabIn C 12 h8 dX6_pointsToItsSorts_8 (by decide) rfl (tgt := 60) (by decide) ?_
    have ht5 := hpp.t5 (k := k) (by omega)
    refine lv_aload_n C.1 C.2.1 dX6_pointsToItsSorts_60 rfl (lv_at hl 0 rfl) ?_
    refine lv_iconst (v := zI 1) C.1 C.2.1 dX6_pointsToItsSorts_61 (by decide) ?_
    refine lv_aload_n C.1 C.2.1 dX6_pointsToItsSorts_62 rfl (lv_at hl 0 rfl) ?_
    refine lv_iload_n C.1 C.2.1 dX6_pointsToItsSorts_63 rfl (lv_at hl 1 rfl) ?_
    refine lv_iconst (v := zI 0) C.1 C.2.1 dX6_pointsToItsSorts_64 (by decide) ?_
    refine z_readV C (As := [zN k, zN 0]) (rest := [zN 1, .ref (ad 3)]) (c_part0 l Z hM hB hP k (by omega) (by omega)) hM.pol rfl ⟨⟨zw_13_21, zw_2_19, zw_13_18⟩, zd_X7_part⟩ zw_13_19 zw_13_20 ⟨Nat.le_of_ble_eq_true rfl, Nat.le_of_ble_eq_true rfl⟩ ⟨rfl, rfl⟩ rfl hl.1 rfl (Nat.le_of_ble_eq_true rfl) dX6_pointsToItsSorts_65 ⟨Nat.zero_le _, Nat.zero_le _⟩ hS (fun locs hS => ?_)
    have hel65 := e1_lt hB.1 tb k
    refine z_readV C (As := [zN 1, zN (e1 F tb k)]) (rest := []) (c_X7_is l Z hM hB hP 1 (by decide) (e1 F tb k) rfl (by omega)) hM.pol rfl ⟨⟨zw_11_11, zw_2_19, zw_13_22⟩, zd_X7_is⟩ zw_11_9 zw_11_10 ⟨Nat.le_of_ble_eq_true rfl, Nat.le_of_ble_eq_true rfl⟩ ⟨rfl, rfl⟩ rfl hl.1 rfl (Nat.le_of_ble_eq_true rfl) dX6_pointsToItsSorts_68 ⟨Nat.zero_le _, Nat.zero_le _⟩ hS (fun locs hS => ?_)
    refine y_ifb_eq (tgt := 92) C dX6_pointsToItsSorts_71 (by decide) (fun h71 => ?_) (fun h71 => ?_)
    · refine lv_iconst (v := zI 0) C.1 C.2.1 dX6_pointsToItsSorts_92 (by decide) ?_
      exact hret _ _ _ _ (zI 0) hS ⟨congrArg (fun x : Int => some (zV x)) (by unfold good6; rw [if_neg (by omega), if_pos (by omega)]; (first | (rw [h71, h85]; rfl) | (rw [h71]; rfl))), rfl⟩ rfl dX6_pointsToItsSorts_93
    · refine lv_aload_n C.1 C.2.1 dX6_pointsToItsSorts_74 rfl (lv_at hl 0 rfl) ?_
      refine lv_iconst (v := zI 1) C.1 C.2.1 dX6_pointsToItsSorts_75 (by decide) ?_
      refine lv_aload_n C.1 C.2.1 dX6_pointsToItsSorts_76 rfl (lv_at hl 0 rfl) ?_
      refine lv_iload_n C.1 C.2.1 dX6_pointsToItsSorts_77 rfl (lv_at hl 1 rfl) ?_
      refine lv_iconst (v := zI 1) C.1 C.2.1 dX6_pointsToItsSorts_78 (by decide) ?_
      refine z_readV C (As := [zN k, zN 1]) (rest := [zN 1, .ref (ad 3)]) (c_part1 l Z hM hB hP k (by omega) (by omega)) hM.pol rfl ⟨⟨zw_13_21, zw_2_19, zw_13_18⟩, zd_X7_part⟩ zw_13_19 zw_13_20 ⟨Nat.le_of_ble_eq_true rfl, Nat.le_of_ble_eq_true rfl⟩ ⟨rfl, rfl⟩ rfl hl.1 rfl (Nat.le_of_ble_eq_true rfl) dX6_pointsToItsSorts_79 ⟨Nat.zero_le _, Nat.zero_le _⟩ hS (fun locs hS => ?_)
      have hel79 := e2_lt hB.1 tb k
      refine z_readV C (As := [zN 1, zN (e2 F tb k)]) (rest := []) (c_X7_is l Z hM hB hP 1 (by decide) (e2 F tb k) rfl (by omega)) hM.pol rfl ⟨⟨zw_11_11, zw_2_19, zw_13_22⟩, zd_X7_is⟩ zw_11_9 zw_11_10 ⟨Nat.le_of_ble_eq_true rfl, Nat.le_of_ble_eq_true rfl⟩ ⟨rfl, rfl⟩ rfl hl.1 rfl (Nat.le_of_ble_eq_true rfl) dX6_pointsToItsSorts_82 ⟨Nat.zero_le _, Nat.zero_le _⟩ hS (fun locs hS => ?_)
      refine y_ifb_eq (tgt := 92) C dX6_pointsToItsSorts_85 (by decide) (fun h85 => ?_) (fun h85 => ?_)
      · refine lv_iconst (v := zI 0) C.1 C.2.1 dX6_pointsToItsSorts_92 (by decide) ?_
        exact hret _ _ _ _ (zI 0) hS ⟨congrArg (fun x : Int => some (zV x)) (by unfold good6; rw [if_neg (by omega), if_pos (by omega)]; (first | (rw [h71, h85]; rfl) | (rw [h71]; rfl))), rfl⟩ rfl dX6_pointsToItsSorts_93
      · refine lv_iconst (v := zI 1) C.1 C.2.1 dX6_pointsToItsSorts_88 (by decide) ?_
        refine lv_goto (tgt := 93) C.1 C.2.1 dX6_pointsToItsSorts_89 (by decide) ?_
        exact hret _ _ _ _ (zI 1) hS ⟨congrArg (fun x : Int => some (zV x)) (by unfold good6; rw [if_neg (by omega), if_pos (by omega)]; (first | (rw [h71, h85]; rfl) | (rw [h71]; rfl))), rfl⟩ rfl dX6_pointsToItsSorts_93
  · refine y_tabOut C h8 (by omega) dX6_pointsToItsSorts_8 (tgt := 130) (by decide) ?_
    refine lv_iconst (v := zI 1) C.1 C.2.1 dX6_pointsToItsSorts_130 (by decide) ?_
    exact hret _ _ _ _ (zI 1) hS ⟨congrArg (fun x : Int => some (zV x)) (by unfold good6; rw [if_neg (by omega), if_neg (by omega), if_neg (by omega)]; rfl), rfl⟩ rfl dX6_pointsToItsSorts_131

set_option maxHeartbeats 4000000 in
set_option maxRecDepth 20000 in
theorem c_X6_wrongEntry (l : Launch) (Z : zT) {H : Heap} {ad : Nat → Nat} {τ : mS} {X : List (Nat × va_E)} (hM : isC Z H ad τ X) {F : Nat → Nat} {n : Nat} (hB : cSrc τ F n) {tb : Nat → Nat} {pc : Nat} (hP : cPl τ F tb pc) (hpp : pPl F n tb pc) (hpc1 : 1 ≤ pc) : zP l Z yX6_wrongEntry cX6_wrongEntry 2 (some .int) (rmk 4) [.ref (ad 3)] H (zV (oI (x6 F tb pc))) := by
  have hn := hB.2.2.2
  have hp1 := hP.2.1
  refine zM.introI (own := RX6) ⟨by decide, rfl⟩ (Nat.le_of_ble_eq_true rfl) ?_
  intro p e s m args below meth c Q ls hH C hl hret
  have hS : va_S (fun _ => False) s.heap H [] := by rw [hH]; exact va_S.rf
  have hl : lv_has ls 2 [(0, .ref (ad 3))] := hl
  refine lv_iconst (v := zI 1) C.1 C.2.1 dX6_wrongEntry_0 (by decide) ?_
  refine lv_istore_n (lv' := [(1, zN 1), (0, .ref (ad 3))]) C.1 C.2.1 dX6_wrongEntry_1 rfl hl (by decide) rfl (fun ls hl => ?_)
  have loop : ∀ (fu : Nat) (k : Nat) (ls : Array Slot) (locs : List Loc), va_S (fun _ => False) s.heap H locs → (1 ≤ k ∧ k ≤ pc ∧ pc < k + fu) → (fst1 (g6 F tb pc) (pc - k) k = x6 F tb pc) → lv_has ls 2 [(1, zN k), (0, .ref (ad 3))] → W p l e (rmk 4) s m args below meth c H locs 0 0 Q (F0 m 2 ls []) := by
    intro fu
    induction fu with
    | zero =>
      intro k ls locs hS hk he hl
      (exact absurd hk.2.2 (by omega))
    | succ fu ih_loop =>
      intro k ls locs hS hk he hl
      refine lv_iload_n C.1 C.2.1 dX6_wrongEntry_2 rfl (lv_at hl 0 rfl) ?_
      refine lv_aload_n C.1 C.2.1 dX6_wrongEntry_3 rfl (lv_at hl 1 rfl) ?_
      refine z_get C (v := .int (τ.1 1)) hM.pol rfl bi_wsX70 8 (by decide) zw_13_12 rfl rfl dX6_wrongEntry_4 ?_
      refine z_re (y := zI ((pc : Nat) : Int)) hP.1 ?_
      refine y_icmp_ge (tgt := 33) C (a := ((k : Nat) : Int)) (b := ((pc : Nat) : Int)) dX6_wrongEntry_7 (by decide) (by omega) (fun h7 => ?_) (fun h7 => ?_)
      · refine lv_iconst (v := zI (-1)) C.1 C.2.1 dX6_wrongEntry_33 (by decide) ?_
        exact hret _ _ _ _ (zI (-1)) hS ⟨congrArg (fun x : Int => some (zV x)) (by rw [← he, show pc - k = 0 by omega]; rfl), rfl⟩ rfl dX6_wrongEntry_34
      · refine lv_aload_n C.1 C.2.1 dX6_wrongEntry_10 rfl (lv_at hl 1 rfl) ?_
        refine lv_iload_n C.1 C.2.1 dX6_wrongEntry_11 rfl (lv_at hl 0 rfl) ?_
        refine z_readS C (As := [.ref (ad 3), zN k]) (rest := []) (c_X6_pointsToItsSorts l Z hM hB hP hpp k (by omega)) ⟨⟨zw_13_16, zw_13_10, zw_13_14⟩, zd_X6_pointsToItsSorts⟩ zw_13_15 ⟨Nat.le_of_ble_eq_true rfl, Nat.le_of_ble_eq_true rfl⟩ ⟨rfl, rfl⟩ rfl hl.1 rfl (Nat.le_of_ble_eq_true rfl) dX6_wrongEntry_12 ⟨Nat.zero_le _, Nat.zero_le _⟩ hS (fun locs hS => ?_)
        refine y_ifb_ne (tgt := 27) C dX6_wrongEntry_15 (by decide) (fun h15 => ?_) (fun h15 => ?_)
        · refine lv_iinc (v := zI ((k + 1 : Nat) : Int)) (lv' := [(1, zN (k + 1)), (0, .ref (ad 3))]) C.1 C.2.1 dX6_wrongEntry_27 hl (k := 0) rfl (zI_add _ _) (by decide) rfl (fun ls hl => ?_)
          refine lv_goto (tgt := 2) C.1 C.2.1 dX6_wrongEntry_30 (by decide) ?_
          exact ih_loop (k + 1) ls _ hS (by omega) (by rw [← he, show pc - k = (pc - (k + 1)) + 1 by omega, fst1_s (by unfold g6; rw [if_pos h15])]) hl
        · refine lv_aload_n C.1 C.2.1 dX6_wrongEntry_18 rfl (lv_at hl 1 rfl) ?_
          refine z_get C (v := .ref (ad 4)) hM.pol rfl bi_wsX70 1 (by decide) zw_13_13 rfl rfl dX6_wrongEntry_19 ?_
          refine lv_iload_n C.1 C.2.1 dX6_wrongEntry_22 rfl (lv_at hl 0 rfl) ?_
          refine z_readSN C (As := [.ref (ad 4), zN k]) (rest := []) (c_at l Z (hM.row 4 (by decide)) (by decide) k rfl (by show _ < 500; omega)) ⟨⟨zw_11_13, zw_1_2⟩, zd_X11_at⟩ (by decide) zw_11_12 ⟨Nat.le_of_ble_eq_true rfl, Nat.le_of_ble_eq_true rfl⟩ ⟨rfl, rfl⟩ rfl hl.1 rfl (Nat.le_of_ble_eq_true rfl) dX6_wrongEntry_23 ⟨Nat.zero_le _, Nat.zero_le _⟩ hS (fun locs hS => ?_)
          refine z_re (y := zI ((tb k : Nat) : Int)) ((hP.2.2 k (by omega)).1) ?_
          exact hret _ _ _ _ (zI ((tb k : Nat) : Int)) hS ⟨congrArg (fun x : Int => some (zV x)) (by rw [← he, show pc - k = (pc - (k + 1)) + 1 by omega, fst1_e (by unfold g6; rw [if_neg (by rw [h15]; decide)])]; rfl), rfl⟩ rfl dX6_wrongEntry_26
  exact loop (pc + 1) 1 ls _ hS (by omega) rfl hl

set_option maxHeartbeats 4000000 in
set_option maxRecDepth 20000 in
theorem c_wmF11 (l : Launch) (Z : zT) {H : Heap} {ad : Nat → Nat} {τ : mS} {X : List (Nat × va_E)} (hM : isC Z H ad τ X) {F : Nat → Nat} {n : Nat} (hB : cSrc τ F n) {cnt : Nat} {f : Nat → Nat} (hr : ∀ j, j < cnt → τ.2.1 11 j = zI (f j : Int)) (hc24 : cnt ≤ 24) (hf : ∀ j, j < cnt → f j + 2 ≤ n) : zP l Z yX6_wrongMemberFlags cX6_wrongMemberFlags 4 (some .int) (rmk 3) [.ref (ad 1), .ref (ad 11), zN cnt] H (zV (oI (fst1 (g7 F f) cnt 0))) := by
  have hn := hB.2.2.2
  refine zM.introI (own := RX6) ⟨by decide, rfl⟩ (Nat.le_of_ble_eq_true rfl) ?_
  intro p e s m args below meth c Q ls hH C hl hret
  have hS : va_S (fun _ => False) s.heap H [] := by rw [hH]; exact va_S.rf
  have hl : lv_has ls 4 [(0, .ref (ad 1)), (1, .ref (ad 11)), (2, zN cnt)] := hl
  refine lv_iconst (v := zI 0) C.1 C.2.1 dX6_wrongMemberFlags_0 (by decide) ?_
  refine lv_istore_n (lv' := [(3, zN 0), (0, .ref (ad 1)), (1, .ref (ad 11)), (2, zN cnt)]) C.1 C.2.1 dX6_wrongMemberFlags_1 rfl hl (by decide) rfl (fun ls hl => ?_)
  have loop : ∀ (fu : Nat) (i : Nat) (ls : Array Slot) (locs : List Loc), va_S (fun _ => False) s.heap H locs → (i ≤ cnt ∧ cnt < i + fu) → (fst1 (g7 F f) (cnt - i) i = fst1 (g7 F f) cnt 0) → lv_has ls 4 [(3, zN i), (0, .ref (ad 1)), (1, .ref (ad 11)), (2, zN cnt)] → W p l e (rmk 3) s m args below meth c H locs 0 0 Q (F0 m 2 ls []) := by
    intro fu
    induction fu with
    | zero =>
      intro i ls locs hS hi he hl
      (exact absurd hi.2 (by omega))
    | succ fu ih_loop =>
      intro i ls locs hS hi he hl
      have hfi := hf i
      refine lv_iload_n C.1 C.2.1 dX6_wrongMemberFlags_2 rfl (lv_at hl 0 rfl) ?_
      refine lv_iload_n C.1 C.2.1 dX6_wrongMemberFlags_3 rfl (lv_at hl 3 rfl) ?_
      refine y_icmp_ge (tgt := 33) C (a := ((i : Nat) : Int)) (b := ((cnt : Nat) : Int)) dX6_wrongMemberFlags_4 (by decide) (by omega) (fun h4 => ?_) (fun h4 => ?_)
      · refine lv_iconst (v := zI (-1)) C.1 C.2.1 dX6_wrongMemberFlags_33 (by decide) ?_
        exact hret _ _ _ _ (zI (-1)) hS ⟨congrArg (fun x : Int => some (zV x)) (by rw [← he, show cnt - i = 0 by omega]; rfl), rfl⟩ rfl dX6_wrongMemberFlags_34
      · refine lv_aload_n C.1 C.2.1 dX6_wrongMemberFlags_7 rfl (lv_at hl 1 rfl) ?_
        refine lv_aload_n C.1 C.2.1 dX6_wrongMemberFlags_8 rfl (lv_at hl 2 rfl) ?_
        refine lv_iload_n C.1 C.2.1 dX6_wrongMemberFlags_9 rfl (lv_at hl 0 rfl) ?_
        refine z_readSN C (As := [.ref (ad 11), zN i]) (rest := [.ref (ad 1)]) (c_at l Z (hM.row 11 (by decide)) (by decide) i rfl (by show _ < 24; omega)) ⟨⟨zw_11_13, zw_1_2⟩, zd_X11_at⟩ (by decide) zw_11_12 ⟨Nat.le_of_ble_eq_true rfl, Nat.le_of_ble_eq_true rfl⟩ ⟨rfl, rfl⟩ rfl hl.1 rfl (Nat.le_of_ble_eq_true rfl) dX6_wrongMemberFlags_10 ⟨Nat.zero_le _, Nat.zero_le _⟩ hS (fun locs hS => ?_)
        refine z_re (y := zI ((f i : Nat) : Int)) (hr i (by omega)) ?_
        refine z_readV C (As := [zN (f i)]) (rest := []) (c_u2 l Z hM hB (f i) rfl (by omega)) hM.byt rfl ⟨⟨zw_10_5, zw_2_15, zw_14_13⟩, zd_X1_u2⟩ zw_10_3 zw_10_4 ⟨Nat.le_of_ble_eq_true rfl, Nat.le_of_ble_eq_true rfl⟩ ⟨rfl, rfl⟩ rfl hl.1 rfl (Nat.le_of_ble_eq_true rfl) dX6_wrongMemberFlags_13 ⟨Nat.zero_le _, Nat.zero_le _⟩ hS (fun locs hS => ?_)
        have := U2_lt hB.1 (f i)
        refine lv_bipush (v := zI 9) C.1 C.2.1 dX6_wrongMemberFlags_16 (by decide) ?_
        refine y_icmp_eq (tgt := 27) C (a := ((U2 F (f i) : Nat) : Int)) (b := 9) dX6_wrongMemberFlags_18 (by decide) (by omega) (fun h18 => ?_) (fun h18 => ?_)
        · refine lv_iinc (v := zI ((i + 1 : Nat) : Int)) (lv' := [(3, zN (i + 1)), (0, .ref (ad 1)), (1, .ref (ad 11)), (2, zN cnt)]) C.1 C.2.1 dX6_wrongMemberFlags_27 hl (k := 0) rfl (zI_add _ _) (by decide) rfl (fun ls hl => ?_)
          refine lv_goto (tgt := 2) C.1 C.2.1 dX6_wrongMemberFlags_30 (by decide) ?_
          exact ih_loop (i + 1) ls _ hS (by omega) (by rw [← he, show cnt - i = (cnt - (i + 1)) + 1 by omega, fst1_s (by unfold g7; rw [if_pos (by omega)])]) hl
        · refine lv_aload_n C.1 C.2.1 dX6_wrongMemberFlags_21 rfl (lv_at hl 2 rfl) ?_
          refine lv_iload_n C.1 C.2.1 dX6_wrongMemberFlags_22 rfl (lv_at hl 0 rfl) ?_
          refine z_readSN C (As := [.ref (ad 11), zN i]) (rest := []) (c_at l Z (hM.row 11 (by decide)) (by decide) i rfl (by show _ < 24; omega)) ⟨⟨zw_11_13, zw_1_2⟩, zd_X11_at⟩ (by decide) zw_11_12 ⟨Nat.le_of_ble_eq_true rfl, Nat.le_of_ble_eq_true rfl⟩ ⟨rfl, rfl⟩ rfl hl.1 rfl (Nat.le_of_ble_eq_true rfl) dX6_wrongMemberFlags_23 ⟨Nat.zero_le _, Nat.zero_le _⟩ hS (fun locs hS => ?_)
          refine z_re (y := zI ((f i : Nat) : Int)) (hr i (by omega)) ?_
          exact hret _ _ _ _ (zI ((f i : Nat) : Int)) hS ⟨congrArg (fun x : Int => some (zV x)) (by rw [← he, show cnt - i = (cnt - (i + 1)) + 1 by omega, fst1_e (by unfold g7; rw [if_neg (by omega)])]; rfl), rfl⟩ rfl dX6_wrongMemberFlags_26
  exact loop (cnt + 1) 0 ls _ hS (by omega) rfl hl

set_option maxHeartbeats 4000000 in
set_option maxRecDepth 20000 in
theorem c_wmF12 (l : Launch) (Z : zT) {H : Heap} {ad : Nat → Nat} {τ : mS} {X : List (Nat × va_E)} (hM : isC Z H ad τ X) {F : Nat → Nat} {n : Nat} (hB : cSrc τ F n) {cnt : Nat} {f : Nat → Nat} (hr : ∀ j, j < cnt → τ.2.1 12 j = zI (f j : Int)) (hc24 : cnt ≤ 24) (hf : ∀ j, j < cnt → f j + 2 ≤ n) : zP l Z yX6_wrongMemberFlags cX6_wrongMemberFlags 4 (some .int) (rmk 3) [.ref (ad 1), .ref (ad 12), zN cnt] H (zV (oI (fst1 (g7 F f) cnt 0))) := by
  have hn := hB.2.2.2
  refine zM.introI (own := RX6) ⟨by decide, rfl⟩ (Nat.le_of_ble_eq_true rfl) ?_
  intro p e s m args below meth c Q ls hH C hl hret
  have hS : va_S (fun _ => False) s.heap H [] := by rw [hH]; exact va_S.rf
  have hl : lv_has ls 4 [(0, .ref (ad 1)), (1, .ref (ad 12)), (2, zN cnt)] := hl
  refine lv_iconst (v := zI 0) C.1 C.2.1 dX6_wrongMemberFlags_0 (by decide) ?_
  refine lv_istore_n (lv' := [(3, zN 0), (0, .ref (ad 1)), (1, .ref (ad 12)), (2, zN cnt)]) C.1 C.2.1 dX6_wrongMemberFlags_1 rfl hl (by decide) rfl (fun ls hl => ?_)
  have loop : ∀ (fu : Nat) (i : Nat) (ls : Array Slot) (locs : List Loc), va_S (fun _ => False) s.heap H locs → (i ≤ cnt ∧ cnt < i + fu) → (fst1 (g7 F f) (cnt - i) i = fst1 (g7 F f) cnt 0) → lv_has ls 4 [(3, zN i), (0, .ref (ad 1)), (1, .ref (ad 12)), (2, zN cnt)] → W p l e (rmk 3) s m args below meth c H locs 0 0 Q (F0 m 2 ls []) := by
    intro fu
    induction fu with
    | zero =>
      intro i ls locs hS hi he hl
      (exact absurd hi.2 (by omega))
    | succ fu ih_loop =>
      intro i ls locs hS hi he hl
      have hfi := hf i
      refine lv_iload_n C.1 C.2.1 dX6_wrongMemberFlags_2 rfl (lv_at hl 0 rfl) ?_
      refine lv_iload_n C.1 C.2.1 dX6_wrongMemberFlags_3 rfl (lv_at hl 3 rfl) ?_
      refine y_icmp_ge (tgt := 33) C (a := ((i : Nat) : Int)) (b := ((cnt : Nat) : Int)) dX6_wrongMemberFlags_4 (by decide) (by omega) (fun h4 => ?_) (fun h4 => ?_)
      · refine lv_iconst (v := zI (-1)) C.1 C.2.1 dX6_wrongMemberFlags_33 (by decide) ?_
        exact hret _ _ _ _ (zI (-1)) hS ⟨congrArg (fun x : Int => some (zV x)) (by rw [← he, show cnt - i = 0 by omega]; rfl), rfl⟩ rfl dX6_wrongMemberFlags_34
      · refine lv_aload_n C.1 C.2.1 dX6_wrongMemberFlags_7 rfl (lv_at hl 1 rfl) ?_
        refine lv_aload_n C.1 C.2.1 dX6_wrongMemberFlags_8 rfl (lv_at hl 2 rfl) ?_
        refine lv_iload_n C.1 C.2.1 dX6_wrongMemberFlags_9 rfl (lv_at hl 0 rfl) ?_
        refine z_readSN C (As := [.ref (ad 12), zN i]) (rest := [.ref (ad 1)]) (c_at l Z (hM.row 12 (by decide)) (by decide) i rfl (by show _ < 24; omega)) ⟨⟨zw_11_13, zw_1_2⟩, zd_X11_at⟩ (by decide) zw_11_12 ⟨Nat.le_of_ble_eq_true rfl, Nat.le_of_ble_eq_true rfl⟩ ⟨rfl, rfl⟩ rfl hl.1 rfl (Nat.le_of_ble_eq_true rfl) dX6_wrongMemberFlags_10 ⟨Nat.zero_le _, Nat.zero_le _⟩ hS (fun locs hS => ?_)
        refine z_re (y := zI ((f i : Nat) : Int)) (hr i (by omega)) ?_
        refine z_readV C (As := [zN (f i)]) (rest := []) (c_u2 l Z hM hB (f i) rfl (by omega)) hM.byt rfl ⟨⟨zw_10_5, zw_2_15, zw_14_13⟩, zd_X1_u2⟩ zw_10_3 zw_10_4 ⟨Nat.le_of_ble_eq_true rfl, Nat.le_of_ble_eq_true rfl⟩ ⟨rfl, rfl⟩ rfl hl.1 rfl (Nat.le_of_ble_eq_true rfl) dX6_wrongMemberFlags_13 ⟨Nat.zero_le _, Nat.zero_le _⟩ hS (fun locs hS => ?_)
        have := U2_lt hB.1 (f i)
        refine lv_bipush (v := zI 9) C.1 C.2.1 dX6_wrongMemberFlags_16 (by decide) ?_
        refine y_icmp_eq (tgt := 27) C (a := ((U2 F (f i) : Nat) : Int)) (b := 9) dX6_wrongMemberFlags_18 (by decide) (by omega) (fun h18 => ?_) (fun h18 => ?_)
        · refine lv_iinc (v := zI ((i + 1 : Nat) : Int)) (lv' := [(3, zN (i + 1)), (0, .ref (ad 1)), (1, .ref (ad 12)), (2, zN cnt)]) C.1 C.2.1 dX6_wrongMemberFlags_27 hl (k := 0) rfl (zI_add _ _) (by decide) rfl (fun ls hl => ?_)
          refine lv_goto (tgt := 2) C.1 C.2.1 dX6_wrongMemberFlags_30 (by decide) ?_
          exact ih_loop (i + 1) ls _ hS (by omega) (by rw [← he, show cnt - i = (cnt - (i + 1)) + 1 by omega, fst1_s (by unfold g7; rw [if_pos (by omega)])]) hl
        · refine lv_aload_n C.1 C.2.1 dX6_wrongMemberFlags_21 rfl (lv_at hl 2 rfl) ?_
          refine lv_iload_n C.1 C.2.1 dX6_wrongMemberFlags_22 rfl (lv_at hl 0 rfl) ?_
          refine z_readSN C (As := [.ref (ad 12), zN i]) (rest := []) (c_at l Z (hM.row 12 (by decide)) (by decide) i rfl (by show _ < 24; omega)) ⟨⟨zw_11_13, zw_1_2⟩, zd_X11_at⟩ (by decide) zw_11_12 ⟨Nat.le_of_ble_eq_true rfl, Nat.le_of_ble_eq_true rfl⟩ ⟨rfl, rfl⟩ rfl hl.1 rfl (Nat.le_of_ble_eq_true rfl) dX6_wrongMemberFlags_23 ⟨Nat.zero_le _, Nat.zero_le _⟩ hS (fun locs hS => ?_)
          refine z_re (y := zI ((f i : Nat) : Int)) (hr i (by omega)) ?_
          exact hret _ _ _ _ (zI ((f i : Nat) : Int)) hS ⟨congrArg (fun x : Int => some (zV x)) (by rw [← he, show cnt - i = (cnt - (i + 1)) + 1 by omega, fst1_e (by unfold g7; rw [if_neg (by omega)])]; rfl), rfl⟩ rfl dX6_wrongMemberFlags_26
  exact loop (cnt + 1) 0 ls _ hS (by omega) rfl hl

theorem g7_b {F f : Nat → Nat} {n cnt q : Nat} (hf : ∀ j, j < cnt → f j + 2 ≤ n) (h : fst1 (g7 F f) cnt 0 = some q) : q ≤ n := by
  obtain ⟨j, a, b, e⟩ := fst1_q _ _ h
  have := hf j (by omega)
  unfold g7 at e
  split at e
  · cases e
  · cases e; omega
theorem pLay.m1 {F tb mt : Nat → Nat} {n cl nf nm fa last : Nat} (h : pLay F n tb cl nf nm mt fa last) {j : Nat} (hj : j < nf) : mt j + 8 ≤ n ∧ pAt F n (mt j + 6) := by
  obtain ⟨a, b, -⟩ := h.2.2.2.2.2.2.2.2.1 j (Nat.zero_le _) (by omega); exact ⟨a, b⟩
theorem pLay.m2 {F tb mt : Nat → Nat} {n cl nf nm fa last : Nat} (h : pLay F n tb cl nf nm mt fa last) {j : Nat} (hj : j < nm) : mt (nf + j) + 8 ≤ n ∧ pAt F n (mt (nf + j) + 6) := by
  obtain ⟨a, b, -⟩ := h.2.2.2.2.2.2.2.2.2.1 (nf + j) (by omega) (by omega); exact ⟨a, b⟩

set_option maxHeartbeats 4000000 in
set_option maxRecDepth 20000 in
theorem c_X6_wrongFlags (l : Launch) (Z : zT) {H : Heap} {ad : Nat → Nat} {τ : mS} {X : List (Nat × va_E)} (hM : isC Z H ad τ X) {F : Nat → Nat} {n : Nat} (hB : cSrc τ F n) {tb mt : Nat → Nat} {cl nf nm fa last : Nat} (hL : cLay τ F tb cl nf nm mt fa last) (hp : pLay F n tb cl nf nm mt fa last) : zP l Z yX6_wrongFlags cX6_wrongFlags 2 (some .int) (rmk 4) [.ref (ad 0)] H (zV (oI (x7 F mt cl (nf + nm)))) := by
  have hn := hB.2.2.2
  have hP := hL.1
  obtain ⟨p1, p2, p3, p4, p5, p6, p7, p8, p9, p10, p11, p12⟩ := id hp
  obtain ⟨q1, q2, q3, q4, q5, q6, q7, q8, q9⟩ := id hL
  refine zM.introI (own := RX6) ⟨by decide, rfl⟩ (Nat.le_of_ble_eq_true rfl) ?_
  intro p e s m args below meth c Q ls hH C hl hret
  have hS : va_S (fun _ => False) s.heap H [] := by rw [hH]; exact va_S.rf
  have hl : lv_has ls 2 [(0, .ref (ad 0))] := hl
  refine lv_aload_n C.1 C.2.1 dX6_wrongFlags_0 rfl (lv_at hl 0 rfl) ?_
  refine z_get C (v := .ref (ad 1)) hM.img rfl bi_wsX20 0 (by decide) zw_14_7 rfl rfl dX6_wrongFlags_1 ?_
  refine lv_aload_n C.1 C.2.1 dX6_wrongFlags_4 rfl (lv_at hl 0 rfl) ?_
  refine z_get C (v := .int (τ.1 4)) hM.img rfl bi_wsX20 8 (by decide) zw_14_8 rfl rfl dX6_wrongFlags_5 ?_
  refine z_re (y := zI ((cl : Nat) : Int)) hL.2.2.2.2.1 ?_
  refine z_readV C (As := [zN cl]) (rest := []) (c_u2 l Z hM hB cl rfl (by omega)) hM.byt rfl ⟨⟨zw_10_5, zw_2_15, zw_14_13⟩, zd_X1_u2⟩ zw_10_3 zw_10_4 ⟨Nat.le_of_ble_eq_true rfl, Nat.le_of_ble_eq_true rfl⟩ ⟨rfl, rfl⟩ rfl hl.1 rfl (Nat.le_of_ble_eq_true rfl) dX6_wrongFlags_8 ⟨Nat.zero_le _, Nat.zero_le _⟩ hS (fun locs hS => ?_)
  have := U2_lt hB.1 cl
  refine lv_bipush (v := zI 33) C.1 C.2.1 dX6_wrongFlags_11 (by decide) ?_
  refine y_icmp_eq (tgt := 21) C (a := ((U2 F cl : Nat) : Int)) (b := 33) dX6_wrongFlags_13 (by decide) (by omega) (fun h13 => ?_) (fun h13 => ?_)
  · refine lv_aload_n C.1 C.2.1 dX6_wrongFlags_21 rfl (lv_at hl 0 rfl) ?_
    refine z_get C (v := .ref (ad 1)) hM.img rfl bi_wsX20 0 (by decide) zw_14_7 rfl rfl dX6_wrongFlags_22 ?_
    refine lv_aload_n C.1 C.2.1 dX6_wrongFlags_25 rfl (lv_at hl 0 rfl) ?_
    refine z_get C (v := .ref (ad 11)) hM.img rfl bi_wsX20 2 (by decide) zw_14_9 rfl rfl dX6_wrongFlags_26 ?_
    refine lv_aload_n C.1 C.2.1 dX6_wrongFlags_29 rfl (lv_at hl 0 rfl) ?_
    refine z_get C (v := .int (τ.1 2)) hM.img rfl bi_wsX20 6 (by decide) zw_14_10 rfl rfl dX6_wrongFlags_30 ?_
    refine z_re (y := zI ((nf : Nat) : Int)) hL.2.2.1 ?_
    refine z_readS C (As := [.ref (ad 1), .ref (ad 11), zN nf]) (rest := []) (c_wmF11 l Z hM hB (f := mt) q8 (by omega) (fun j hj => by have := (hp.m1 hj).1; omega)) ⟨⟨zw_14_16, zw_13_10, zw_14_14⟩, zd_X6_wrongMemberFlags⟩ zw_14_15 ⟨Nat.le_of_ble_eq_true rfl, Nat.le_of_ble_eq_true rfl⟩ ⟨rfl, rfl⟩ rfl hl.1 rfl (Nat.le_of_ble_eq_true rfl) dX6_wrongFlags_33 ⟨Nat.zero_le _, Nat.zero_le _⟩ hS (fun locs hS => ?_)
    rcases oI_c (fst1 (g7 F mt) nf 0) with ho11 | ⟨q11, ho11⟩
    · refine z_re (y := zI (-1)) (by rw [ho11]; rfl) ?_
      refine lv_istore_n (lv' := [(1, zV (-1)), (0, .ref (ad 0))]) C.1 C.2.1 dX6_wrongFlags_36 rfl hl (by decide) rfl (fun ls hl => ?_)
      refine lv_iload_n C.1 C.2.1 dX6_wrongFlags_37 rfl (lv_at hl 0 rfl) ?_
      refine lv_iconst (v := zI (-1)) C.1 C.2.1 dX6_wrongFlags_38 (by decide) ?_
      refine y_icmp_eq (tgt := 46) C (a := -1) (b := -1) dX6_wrongFlags_39 (by decide) (by omega) (fun h39 => ?_) (fun h39 => ?_)
      · refine lv_aload_n C.1 C.2.1 dX6_wrongFlags_46 rfl (lv_at hl 1 rfl) ?_
        refine z_get C (v := .ref (ad 1)) hM.img rfl bi_wsX20 0 (by decide) zw_14_7 rfl rfl dX6_wrongFlags_47 ?_
        refine lv_aload_n C.1 C.2.1 dX6_wrongFlags_50 rfl (lv_at hl 1 rfl) ?_
        refine z_get C (v := .ref (ad 12)) hM.img rfl bi_wsX20 3 (by decide) zw_14_11 rfl rfl dX6_wrongFlags_51 ?_
        refine lv_aload_n C.1 C.2.1 dX6_wrongFlags_54 rfl (lv_at hl 1 rfl) ?_
        refine z_get C (v := .int (τ.1 3)) hM.img rfl bi_wsX20 7 (by decide) zw_14_12 rfl rfl dX6_wrongFlags_55 ?_
        refine z_re (y := zI ((nm : Nat) : Int)) hL.2.2.2.1 ?_
        refine z_readS C (As := [.ref (ad 1), .ref (ad 12), zN nm]) (rest := []) (c_wmF12 l Z hM hB (f := (fun j => mt (nf + j))) q9 (by omega) (fun j hj => by have := (hp.m2 hj).1; show mt (nf + j) + 2 ≤ n; omega)) ⟨⟨zw_14_16, zw_13_10, zw_14_14⟩, zd_X6_wrongMemberFlags⟩ zw_14_15 ⟨Nat.le_of_ble_eq_true rfl, Nat.le_of_ble_eq_true rfl⟩ ⟨rfl, rfl⟩ rfl hl.1 rfl (Nat.le_of_ble_eq_true rfl) dX6_wrongFlags_58 ⟨Nat.zero_le _, Nat.zero_le _⟩ hS (fun locs hS => ?_)
        rcases oI_c (fst1 (g7 F (fun j => mt (nf + j))) nm 0) with ho12 | ⟨q12, ho12⟩
        · refine z_re (y := zI (-1)) (by rw [ho12]; rfl) ?_
          exact hret _ _ _ _ (zI (-1)) hS ⟨congrArg (fun x : Int => some (zV x)) (by unfold x7; rw [if_pos (by omega), fst1_add, Nat.zero_add, show fst1 (g7 F mt) nm nf = fst1 (g7 F (fun j => mt (nf + j))) nm 0 from fst1_sh (k := nf) nm 0, ho11, ho12]; rfl), rfl⟩ rfl dX6_wrongFlags_61
        · refine z_re (y := zI ((q12 : Nat) : Int)) (by rw [ho12]; rfl) ?_
          have hob12 : q12 ≤ n := g7_b (fun j hj => by have := (hp.m2 hj).1; show mt (nf + j) + 2 ≤ n; omega) ho12
          exact hret _ _ _ _ (zI ((q12 : Nat) : Int)) hS ⟨congrArg (fun x : Int => some (zV x)) (by unfold x7; rw [if_pos (by omega), fst1_add, Nat.zero_add, show fst1 (g7 F mt) nm nf = fst1 (g7 F (fun j => mt (nf + j))) nm 0 from fst1_sh (k := nf) nm 0, ho11, ho12]; rfl), rfl⟩ rfl dX6_wrongFlags_61
      · exact False.elim (by first | omega | exact h39 rfl)
    · refine z_re (y := zI ((q11 : Nat) : Int)) (by rw [ho11]; rfl) ?_
      have hob11 : q11 ≤ n := g7_b (fun j hj => by have := (hp.m1 hj).1; omega) ho11
      refine lv_istore_n (lv' := [(1, zN q11), (0, .ref (ad 0))]) C.1 C.2.1 dX6_wrongFlags_36 rfl hl (by decide) rfl (fun ls hl => ?_)
      refine lv_iload_n C.1 C.2.1 dX6_wrongFlags_37 rfl (lv_at hl 0 rfl) ?_
      refine lv_iconst (v := zI (-1)) C.1 C.2.1 dX6_wrongFlags_38 (by decide) ?_
      refine y_icmp_eq (tgt := 46) C (a := ((q11 : Nat) : Int)) (b := -1) dX6_wrongFlags_39 (by decide) (by omega) (fun h39 => ?_) (fun h39 => ?_)
      · exact False.elim (by first | omega | exact h39 rfl)
      · refine lv_iload_n C.1 C.2.1 dX6_wrongFlags_42 rfl (lv_at hl 0 rfl) ?_
        refine lv_goto (tgt := 61) C.1 C.2.1 dX6_wrongFlags_43 (by decide) ?_
        exact hret _ _ _ _ (zI ((q11 : Nat) : Int)) hS ⟨congrArg (fun x : Int => some (zV x)) (by unfold x7; rw [if_pos (by omega), fst1_add, Nat.zero_add, show fst1 (g7 F mt) nm nf = fst1 (g7 F (fun j => mt (nf + j))) nm 0 from fst1_sh (k := nf) nm 0, ho11]; rfl), rfl⟩ rfl dX6_wrongFlags_61
  · refine lv_aload_n C.1 C.2.1 dX6_wrongFlags_16 rfl (lv_at hl 0 rfl) ?_
    refine z_get C (v := .int (τ.1 4)) hM.img rfl bi_wsX20 8 (by decide) zw_14_8 rfl rfl dX6_wrongFlags_17 ?_
    refine z_re (y := zI ((cl : Nat) : Int)) hL.2.2.2.2.1 ?_
    exact hret _ _ _ _ (zI ((cl : Nat) : Int)) hS ⟨congrArg (fun x : Int => some (zV x)) (by unfold x7; rw [if_neg (by omega)]; rfl), rfl⟩ rfl dX6_wrongFlags_20

set_option maxHeartbeats 4000000 in
set_option maxRecDepth 20000 in
theorem c_X6_wrongClass (l : Launch) (Z : zT) {H : Heap} {ad : Nat → Nat} {τ : mS} {X : List (Nat × va_E)} (hM : isC Z H ad τ X) {F : Nat → Nat} {n : Nat} (hB : cSrc τ F n) {tb mt : Nat → Nat} {cl nf nm fa last : Nat} (hL : cLay τ F tb cl nf nm mt fa last) (hp : pLay F n tb cl nf nm mt fa last) : zP l Z yX6_wrongClass cX6_wrongClass 2 (some .int) (rmk 3) [.ref (ad 0)] H (zV (oI (x8 F tb (U2 F 8) cl))) := by
  have hn := hB.2.2.2
  have hP := hL.1
  obtain ⟨p1, p2, p3, p4, p5, p6, p7, p8, p9, p10, p11, p12⟩ := id hp
  obtain ⟨q1, q2, q3, q4, q5, q6, q7, q8, q9⟩ := id hL
  refine zM.introI (own := RX6) ⟨by decide, rfl⟩ (Nat.le_of_ble_eq_true rfl) ?_
  intro p e s m args below meth c Q ls hH C hl hret
  have hS : va_S (fun _ => False) s.heap H [] := by rw [hH]; exact va_S.rf
  have hl : lv_has ls 2 [(0, .ref (ad 0))] := hl
  refine lv_aload_n C.1 C.2.1 dX6_wrongClass_0 rfl (lv_at hl 0 rfl) ?_
  refine z_get C (v := .int (τ.1 4)) hM.img rfl bi_wsX20 8 (by decide) zw_14_8 rfl rfl dX6_wrongClass_1 ?_
  refine z_re (y := zI ((cl : Nat) : Int)) hL.2.2.2.2.1 ?_
  refine lv_iconst (v := zI 2) C.1 C.2.1 dX6_wrongClass_4 (by decide) ?_
  refine y_iaddN C (a := cl) (b := 2) dX6_wrongClass_5 ?_
  refine lv_istore_n (lv' := [(1, zN (cl + 2)), (0, .ref (ad 0))]) C.1 C.2.1 dX6_wrongClass_6 rfl hl (by decide) rfl (fun ls hl => ?_)
  refine lv_aload_n C.1 C.2.1 dX6_wrongClass_7 rfl (lv_at hl 1 rfl) ?_
  refine z_get C (v := .ref (ad 3)) hM.img rfl bi_wsX20 1 (by decide) zw_14_20 rfl rfl dX6_wrongClass_8 ?_
  refine lv_bipush (v := zI 7) C.1 C.2.1 dX6_wrongClass_11 (by decide) ?_
  refine lv_aload_n C.1 C.2.1 dX6_wrongClass_13 rfl (lv_at hl 1 rfl) ?_
  refine z_get C (v := .ref (ad 1)) hM.img rfl bi_wsX20 0 (by decide) zw_14_7 rfl rfl dX6_wrongClass_14 ?_
  refine lv_iload_n C.1 C.2.1 dX6_wrongClass_17 rfl (lv_at hl 0 rfl) ?_
  refine z_readV C (As := [zN (cl + 2)]) (rest := [zN 7, .ref (ad 3)]) (c_u2 l Z hM hB (cl + 2) rfl (by omega)) hM.byt rfl ⟨⟨zw_10_5, zw_2_15, zw_14_13⟩, zd_X1_u2⟩ zw_10_3 zw_10_4 ⟨Nat.le_of_ble_eq_true rfl, Nat.le_of_ble_eq_true rfl⟩ ⟨rfl, rfl⟩ rfl hl.1 rfl (Nat.le_of_ble_eq_true rfl) dX6_wrongClass_18 ⟨Nat.zero_le _, Nat.zero_le _⟩ hS (fun locs hS => ?_)
  have := U2_lt hB.1 (cl + 2)
  refine z_readV C (As := [zN 7, zN (U2 F (cl + 2))]) (rest := []) (c_X7_is l Z hM hB hP 7 (by decide) (U2 F (cl + 2)) rfl (by omega)) hM.pol rfl ⟨⟨zw_11_11, zw_2_19, zw_13_22⟩, zd_X7_is⟩ zw_11_9 zw_11_10 ⟨Nat.le_of_ble_eq_true rfl, Nat.le_of_ble_eq_true rfl⟩ ⟨rfl, rfl⟩ rfl hl.1 rfl (Nat.le_of_ble_eq_true rfl) dX6_wrongClass_21 ⟨Nat.zero_le _, Nat.zero_le _⟩ hS (fun locs hS => ?_)
  refine y_ifb_ne (tgt := 29) C dX6_wrongClass_24 (by decide) (fun h24 => ?_) (fun h24 => ?_)
  · refine lv_aload_n C.1 C.2.1 dX6_wrongClass_29 rfl (lv_at hl 1 rfl) ?_
    refine z_get C (v := .ref (ad 3)) hM.img rfl bi_wsX20 1 (by decide) zw_14_20 rfl rfl dX6_wrongClass_30 ?_
    refine lv_bipush (v := zI 7) C.1 C.2.1 dX6_wrongClass_33 (by decide) ?_
    refine lv_aload_n C.1 C.2.1 dX6_wrongClass_35 rfl (lv_at hl 1 rfl) ?_
    refine z_get C (v := .ref (ad 1)) hM.img rfl bi_wsX20 0 (by decide) zw_14_7 rfl rfl dX6_wrongClass_36 ?_
    refine lv_iload_n C.1 C.2.1 dX6_wrongClass_39 rfl (lv_at hl 0 rfl) ?_
    refine lv_iconst (v := zI 2) C.1 C.2.1 dX6_wrongClass_40 (by decide) ?_
    refine y_iaddN C (a := cl + 2) (b := 2) dX6_wrongClass_41 ?_
    refine z_readV C (As := [zN ((cl + 2) + 2)]) (rest := [zN 7, .ref (ad 3)]) (c_u2 l Z hM hB (cl + 4) (by omega) (by omega)) hM.byt rfl ⟨⟨zw_10_5, zw_2_15, zw_14_13⟩, zd_X1_u2⟩ zw_10_3 zw_10_4 ⟨Nat.le_of_ble_eq_true rfl, Nat.le_of_ble_eq_true rfl⟩ ⟨rfl, rfl⟩ rfl hl.1 rfl (Nat.le_of_ble_eq_true rfl) dX6_wrongClass_42 ⟨Nat.zero_le _, Nat.zero_le _⟩ hS (fun locs hS => ?_)
    have := U2_lt hB.1 (cl + 4)
    refine z_readV C (As := [zN 7, zN (U2 F (cl + 4))]) (rest := []) (c_X7_is l Z hM hB hP 7 (by decide) (U2 F (cl + 4)) rfl (by omega)) hM.pol rfl ⟨⟨zw_11_11, zw_2_19, zw_13_22⟩, zd_X7_is⟩ zw_11_9 zw_11_10 ⟨Nat.le_of_ble_eq_true rfl, Nat.le_of_ble_eq_true rfl⟩ ⟨rfl, rfl⟩ rfl hl.1 rfl (Nat.le_of_ble_eq_true rfl) dX6_wrongClass_45 ⟨Nat.zero_le _, Nat.zero_le _⟩ hS (fun locs hS => ?_)
    refine y_ifb_ne (tgt := 55) C dX6_wrongClass_48 (by decide) (fun h48 => ?_) (fun h48 => ?_)
    · refine lv_aload_n C.1 C.2.1 dX6_wrongClass_55 rfl (lv_at hl 1 rfl) ?_
      refine z_get C (v := .ref (ad 1)) hM.img rfl bi_wsX20 0 (by decide) zw_14_7 rfl rfl dX6_wrongClass_56 ?_
      refine lv_iload_n C.1 C.2.1 dX6_wrongClass_59 rfl (lv_at hl 0 rfl) ?_
      refine lv_iconst (v := zI 4) C.1 C.2.1 dX6_wrongClass_60 (by decide) ?_
      refine y_iaddN C (a := cl + 2) (b := 4) dX6_wrongClass_61 ?_
      refine z_readV C (As := [zN ((cl + 2) + 4)]) (rest := []) (c_u2 l Z hM hB (cl + 6) (by omega) (by omega)) hM.byt rfl ⟨⟨zw_10_5, zw_2_15, zw_14_13⟩, zd_X1_u2⟩ zw_10_3 zw_10_4 ⟨Nat.le_of_ble_eq_true rfl, Nat.le_of_ble_eq_true rfl⟩ ⟨rfl, rfl⟩ rfl hl.1 rfl (Nat.le_of_ble_eq_true rfl) dX6_wrongClass_62 ⟨Nat.zero_le _, Nat.zero_le _⟩ hS (fun locs hS => ?_)
      have := U2_lt hB.1 (cl + 6)
      refine y_if_ne (tgt := 72) C (a := ((U2 F (cl + 6) : Nat) : Int)) dX6_wrongClass_65 (by decide) (by omega) (fun h65 => ?_) (fun h65 => ?_)
      · refine lv_iload_n C.1 C.2.1 dX6_wrongClass_72 rfl (lv_at hl 0 rfl) ?_
        refine lv_iconst (v := zI 4) C.1 C.2.1 dX6_wrongClass_73 (by decide) ?_
        refine y_iaddN C (a := cl + 2) (b := 4) dX6_wrongClass_74 ?_
        exact hret _ _ _ _ (zI (((cl + 2) + 4 : Nat) : Int)) hS ⟨congrArg (fun x : Int => some (zV x)) (by unfold x8; rw [if_neg (by rw [h24]; decide), if_neg (by rw [h48]; decide), if_neg (by omega)]; rfl), rfl⟩ rfl dX6_wrongClass_75
      · refine lv_iconst (v := zI (-1)) C.1 C.2.1 dX6_wrongClass_68 (by decide) ?_
        refine lv_goto (tgt := 75) C.1 C.2.1 dX6_wrongClass_69 (by decide) ?_
        exact hret _ _ _ _ (zI (-1)) hS ⟨congrArg (fun x : Int => some (zV x)) (by unfold x8; rw [if_neg (by rw [h24]; decide), if_neg (by rw [h48]; decide), if_pos (by omega)]; rfl), rfl⟩ rfl dX6_wrongClass_75
    · refine lv_iload_n C.1 C.2.1 dX6_wrongClass_51 rfl (lv_at hl 0 rfl) ?_
      refine lv_iconst (v := zI 2) C.1 C.2.1 dX6_wrongClass_52 (by decide) ?_
      refine y_iaddN C (a := cl + 2) (b := 2) dX6_wrongClass_53 ?_
      exact hret _ _ _ _ (zI (((cl + 2) + 2 : Nat) : Int)) hS ⟨congrArg (fun x : Int => some (zV x)) (by unfold x8; rw [if_neg (by rw [h24]; decide), if_pos h48]; rfl), rfl⟩ rfl dX6_wrongClass_54
  · refine lv_iload_n C.1 C.2.1 dX6_wrongClass_27 rfl (lv_at hl 0 rfl) ?_
    exact hret _ _ _ _ (zI ((cl + 2 : Nat) : Int)) hS ⟨congrArg (fun x : Int => some (zV x)) (by unfold x8; rw [if_pos h24]; rfl), rfl⟩ rfl dX6_wrongClass_28
