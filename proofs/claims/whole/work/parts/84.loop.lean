/-! the law: its loop -/
theorem and15 (g : Int32) : 0 ≤ (g &&& 15).toInt ∧ (g &&& 15).toInt < 16 := by
  have h : (g &&& 15).toBitVec.toNat ≤ 15 := by
    show (g.toBitVec &&& (15 : Int32).toBitVec).toNat ≤ 15
    rw [BitVec.toNat_and]
    exact Nat.and_le_right
  have e : (g &&& 15).toInt = ((g &&& 15).toBitVec.toNat : Int) := BitVec.toInt_eq_toNat_of_lt (by omega)
  omega

set_option maxHeartbeats 4000000 in
set_option maxRecDepth 20000 in
theorem law_loop {p : Program} {l : Launch} {e : Env} {s : State} {m : MethodId} {below : List Frame} {meth : Method} {c : Code} {Z : zT} {b L : Nat} {xs : Nat → Int32} {o oM : Nat} (hL : L ≤ 3072) (C0 : lw_At p s m meth c b L xs) (C1 : zC Z (AH s) p s m #[Value.ref b] meth c code 4 R_law ret) :
    ∀ (n i k : Nat), i = 6 * k → L + 1 ≤ i + n → i ≤ L + 5 → ∀ (H : Heap) (locs : List Loc), lwI Z (AH s) o oM H → va_S (AH s) s.heap H locs → ∀ ls : Array Slot, lv_has ls 4 [(0, .ref b), (1, .ref o), (2, .ref oM), (3, zN i)] → W p l e room_1 s m #[Value.ref b] below meth c H locs (107 + 25 * k) (350676 + 100 * k) (lw_Z below #[Value.ref b] s) (F0 m 18 ls []) := by
  obtain ⟨hx, hb, hr, hml, hown, hts, hX, hbl, hlocks, hgv⟩ := C0
  have C : zC Z (AH s) p s m #[Value.ref b] meth c cL_law 4 RL ret := C1
  have hAn : ∀ q : Nat, s.heap.size ≤ q → AH s q := fun _ h => h
  have hbA : ¬ AH s b := Nat.not_le.mpr hbl
  intro n
  induction n with
  | zero =>
    intro i k e1 e2 e3 H locs hI hS ls hl
    refine lv_iload_n hx hb dL_law_18 rfl (lv_at hl 3 rfl) ?_
    refine lv_aload_n hx hb dL_law_19 rfl (lv_at hl 0 rfl) ?_
    refine va_slen hx hb hX hbl hbA hS dL_law_20 ?_
    refine z_re (y := zI (L : Int)) (zI_nat L).symm ?_
    refine lv_bipush (v := zI 6) hx hb dL_law_21 (by decide) ?_
    refine y_isub C (a := (L : Int)) (b := 6) dL_law_23 ?_
    refine y_icmp_gt (tgt := 394) C (a := (i : Int)) (b := (L : Int) - 6) dL_law_24 (by decide) (by omega) (fun h24 => ?_) (fun h24 => absurd h24 (by omega))
    refine lv_iconst (v := 1) hx hb dL_law_394 (by decide) ?_
    refine va_forget (fun q hq => hS.2.2 q hq) ?_
    refine W.widen (k := 601024) (n := 7293034) (by omega) (by omega) ?_
    exact lw_ret hx hb hr hlocks dL_law_395
  | succ n ih =>
    intro i k e1 e2 e3 H locs hI hS ls hl
    refine lv_iload_n hx hb dL_law_18 rfl (lv_at hl 3 rfl) ?_
    refine lv_aload_n hx hb dL_law_19 rfl (lv_at hl 0 rfl) ?_
    refine va_slen hx hb hX hbl hbA hS dL_law_20 ?_
    refine z_re (y := zI (L : Int)) (zI_nat L).symm ?_
    refine lv_bipush (v := zI 6) hx hb dL_law_21 (by decide) ?_
    refine y_isub C (a := (L : Int)) (b := 6) dL_law_23 ?_
    refine y_icmp_gt (tgt := 394) C (a := (i : Int)) (b := (L : Int) - 6) dL_law_24 (by decide) (by omega) (fun h24 => ?_) (fun h24 => ?_)
    · refine lv_iconst (v := 1) hx hb dL_law_394 (by decide) ?_
      refine va_forget (fun q hq => hS.2.2 q hq) ?_
      refine W.widen (k := 601024) (n := 7293034) (by omega) (by omega) ?_
      exact lw_ret hx hb hr hlocks dL_law_395
    · have hij : i + 5 < L := by omega
      have hf : 107 + 25 * k + 25 ≤ room_1.cells ∧ 350676 + 100 * k + 100 ≤ room_1.slots := ⟨by show _ ≤ 601024; omega, by show _ ≤ 7293034; omega⟩
      refine lv_aload_n hx hb dL_law_27 rfl (lv_at hl 0 rfl) ?_
      refine lv_iload_n hx hb dL_law_28 rfl (lv_at hl 3 rfl) ?_
      refine va_sld hx hb hX hbl hbA hS (zI_in (by omega) (by omega)) dL_law_29 ?_
      refine lv_bipush (v := 15) hx hb dL_law_30 (by decide) ?_
      refine lv_iand hx hb dL_law_32 ?_
      have hg := and15 (xs (zI (i : Int)).toNatClampNeg)
      generalize xs (zI (i : Int)).toNatClampNeg &&& 15 = y at hg ⊢
      have fin : ∀ (H' : Heap) (locs' : List Loc), lwI Z (AH s) o oM H' → va_S (AH s) s.heap H' locs' → W p l e room_1 s m #[Value.ref b] below meth c H' locs' (107 + 25 * k + 25) (350676 + 100 * k + 100) (lw_Z below #[Value.ref b] s) (F0 m 388 ls []) := by
        intro H' locs' hI' hS'
        refine lv_iinc (v := zI ((i + 6 : Nat) : Int)) (lv' := [(3, zN (i + 6)), (0, .ref b), (1, .ref o), (2, .ref oM)]) hx hb dL_law_388 hl (k := 3) rfl (by rw [show Int32.ofInt 6 = zI 6 from rfl, zI_add]; rfl) (by decide) rfl (fun ls hl => ?_)
        refine lv_goto (tgt := 18) hx hb dL_law_391 (by decide) ?_
        have K := ih (i + 6) (k + 1) (by omega) (by omega) (by omega) H' locs' hI' hS' ls (lv_sub hl [1, 2, 3, 0] rfl)
        rw [show 107 + 25 * (k + 1) = 107 + 25 * k + 25 by omega, show 350676 + 100 * (k + 1) = 350676 + 100 * k + 100 by omega] at K
        exact K
      have fin0 : ∀ (H' : Heap) (locs' : List Loc), lwI Z (AH s) o oM H' → va_S (AH s) s.heap H' locs' → W p l e room_1 s m #[Value.ref b] below meth c H' locs' (107 + 25 * k) (350676 + 100 * k) (lw_Z below #[Value.ref b] s) (F0 m 388 ls []) := fun H' locs' h1 h2 => W.widen (k := 107 + 25 * k + 25) (n := 350676 + 100 * k + 100) (by omega) (by omega) (fin H' locs' h1 h2)
      by_cases hy : y.toInt < 10
      · have hc : y.toInt = 0 ∨ y.toInt = 1 ∨ y.toInt = 2 ∨ y.toInt = 3 ∨ y.toInt = 4 ∨ y.toInt = 5 ∨ y.toInt = 6 ∨ y.toInt = 7 ∨ y.toInt = 8 ∨ y.toInt = 9 := by omega
        rcases hc with h | h | h | h | h | h | h | h | h | h
        · refine lv_tableIn (off := 55) (tgt := 88) hx hb dL_law_33 (by omega) (by omega) (by rw [h]; rfl) (by decide) ?_
          exact k_t_feed C hX hbl hbA hAn hl hL hij hf hI hS fin0
        · refine lv_tableIn (off := 118) (tgt := 151) hx hb dL_law_33 (by omega) (by omega) (by rw [h]; rfl) (by decide) ?_
          exact k_t_end C hX hbl hbA hAn hl hL hij hf hI hS fin0
        · refine lv_tableIn (off := 141) (tgt := 174) hx hb dL_law_33 (by omega) (by omega) (by rw [h]; rfl) (by decide) ?_
          exact k_t_read C hX hbl hbA hAn hl hL hij hf hI hS fin
        · refine lv_tableIn (off := 154) (tgt := 187) hx hb dL_law_33 (by omega) (by omega) (by rw [h]; rfl) (by decide) ?_
          exact k_t_place C hX hbl hbA hAn hl hL hij hf hI hS fin0
        · refine lv_tableIn (off := 167) (tgt := 200) hx hb dL_law_33 (by omega) (by omega) (by rw [h]; rfl) (by decide) ?_
          exact k_t_size C hX hbl hbA hAn hl hL hij hf hI hS fin0
        · refine lv_tableIn (off := 190) (tgt := 223) hx hb dL_law_33 (by omega) (by omega) (by rw [h]; rfl) (by decide) ?_
          exact k_t_field C hX hbl hbA hAn hl hL hij hf hI hS fin0
        · refine lv_tableIn (off := 213) (tgt := 246) hx hb dL_law_33 (by omega) (by omega) (by rw [h]; rfl) (by decide) ?_
          exact k_t_method C hX hbl hbA hAn hl hL hij hf hI hS fin0
        · refine lv_tableIn (off := 246) (tgt := 279) hx hb dL_law_33 (by omega) (by omega) (by rw [h]; rfl) (by decide) ?_
          exact k_t_code C hX hbl hbA hAn hl hL hij hf hI hS fin0
        · refine lv_tableIn (off := 279) (tgt := 312) hx hb dL_law_33 (by omega) (by omega) (by rw [h]; rfl) (by decide) ?_
          exact k_t_first C hX hbl hbA hAn hl hL hij hf hI hS fin0
        · refine lv_tableIn (off := 312) (tgt := 345) hx hb dL_law_33 (by omega) (by omega) (by rw [h]; rfl) (by decide) ?_
          exact k_t_target C hX hbl hbA hAn hl hL hij hf hI hS fin0
      · refine lv_tableOut (tgt := 388) hx hb dL_law_33 (Or.inr (by omega)) (by decide) ?_
        exact fin0 H locs hI hS

