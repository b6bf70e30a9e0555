/-! the component's constructor -/
abbrev imF (b : Nat) : List Value := [.ref b, .ref (b + 2), .ref (b + 10), .ref (b + 11), .ref (b + 12), .ref (b + 37), .int 0, .int 0, .int 0, .int 0, .int 0]
abbrev eIm (b : Nat) : va_E := .inr (3, imF b)
abbrev eVe : va_E := .inr (6, [.int 0, .int (zI (-1))])
def imAd (a v : Nat) : Nat → Nat := fun i => if i ≤ 13 then a + i else if i = 14 then a + 38 else if i = 15 then v else a + i - 2
def τ0 : mS := (fun i => if i = 9 then zI (-1) else 0, fun _ _ => 0, fun _ => 0)
theorem imAd_c (a v i : Nat) : (i ≤ 13 ∧ imAd a v i = a + i) ∨ (i = 14 ∧ imAd a v i = a + 38) ∨ (i = 15 ∧ imAd a v i = v) ∨ (16 ≤ i ∧ imAd a v i = a + i - 2) := by
  unfold imAd
  by_cases h1 : i ≤ 13
  · rw [if_pos h1]; exact Or.inl ⟨h1, rfl⟩
  · rw [if_neg h1]
    by_cases h2 : i = 14
    · rw [if_pos h2]; exact Or.inr (Or.inl ⟨h2, rfl⟩)
    · rw [if_neg h2]
      by_cases h3 : i = 15
      · rw [if_pos h3]; exact Or.inr (Or.inr (Or.inl ⟨h3, rfl⟩))
      · rw [if_neg h3]; exact Or.inr (Or.inr (Or.inr ⟨by omega, rfl⟩))
theorem imAd_inj {a v : Nat} (hv : v < a ∨ a + 38 < v) {i j : Nat} (hi : i < 40) (hj : j < 40) (h : imAd a v i = imAd a v j) : i = j := by
  have h1 := imAd_c a v i
  have h2 := imAd_c a v j
  omega
theorem imAd_rg {a v : Nat} {i : Nat} (hi : i < 40) (h : i ≠ 15) : a ≤ imAd a v i ∧ imAd a v i ≤ a + 38 := by
  have h1 := imAd_c a v i
  omega
theorem arr_ext {c : ClassId} {N : Nat} {f g : Nat → Value} (h : ∀ j, j < N → f j = g j) : arrV c N f = arrV c N g := by
  have e : (fun j : Fin N => f j.val) = fun j => g j.val := funext fun j => h _ j.isLt
  unfold arrV
  rw [e]
theorem imL_at (Z : zT) (b : Nat) : (∀ k ∈ cIdx, (imL Z b)[imAd 0 0 k - 1]? = some (.inl (Z.2.1 1, (cLen k, .inl (fun _ => 0))))) := by
  intro k hk
  simp only [cIdx, List.mem_cons, List.not_mem_nil, or_false] at hk
  rcases hk with rfl | rfl | rfl | rfl | rfl | rfl | rfl | rfl | rfl | rfl <;> rfl
theorem imL_bd (Z : zT) (b m : Nat) (hm : m < 24) : (imL Z b)[13 + m]? = some eBd := by
  unfold imL imB
  rw [List.append_assoc, List.getElem?_append_right (by show 12 ≤ _; omega), show 13 + m - (imP Z b).length = m + 1 by show 13 + m - 12 = _; omega, List.cons_append, List.getElem?_cons_succ, List.getElem?_append_left (by rw [List.length_replicate]; exact hm), List.getElem?_replicate, if_pos hm]
theorem isC_of {Z : zT} {H : Heap} {a v : Nat} (hv : v < a ∨ a + 38 < v) (h0 : zAt Z H a (eIm (a + 1))) (hL : ∀ j e, (imL Z (a + 1))[j]? = some e → zAt Z H (a + 1 + j) e) (hV : zAt Z H v eVe) : isC Z H (imAd a v) τ0 [] := by
  refine ⟨h0, hL 0 _ rfl, ?_, ?_, fun k hk => ?_, ?_, ?_, fun m hm => ?_, fun i hi j hj h => imAd_inj hv hi hj h, fun q hq => by simp at hq⟩
  · exact hL 1 _ rfl
  · exact hL 2 _ rfl
  · have e : imAd a v k = a + 1 + (imAd 0 0 k - 1) := by
      have := cIdx_lt hk
      have h1 := imAd_c a v k
      have h2 := imAd_c 0 0 k
      omega
    rw [e]; exact hL _ _ (imL_at Z _ k hk)
  · have h : H[a + 1 + 12]? = some (vp_cell (Z.2.1 3) (24, .inr (.inr (.inr (.inr (bdF (a + 1) 24)))))) := hL 12 _ rfl
    show H[imAd a v 13]? = some (vp_cell _ _)
    rw [show imAd a v 13 = a + 1 + 12 by unfold imAd; rw [if_pos (by omega)], h, vp_cell_q, vp_cell_q]
    refine congrArg some (arr_ext fun j hj => ?_)
    show va_rf (bdF (a + 1) 24 j) = va_rf (some (imAd a v (16 + j)))
    unfold bdF imAd
    rw [if_pos hj, if_neg (by omega), if_neg (by omega), if_neg (by omega)]
    exact congrArg (fun x => va_rf (some x)) (by omega)
  · exact hV
  · rw [show imAd a v (16 + m) = a + 1 + (13 + m) by unfold imAd; rw [if_neg (by omega), if_neg (by omega), if_neg (by omega)]; omega]
    exact hL _ _ (imL_bd Z _ m hm)

set_option maxHeartbeats 4000000 in
set_option maxRecDepth 20000 in
theorem c_X11_init (l : Launch) (Z : zT) {H : Heap} {o s0 : Nat} (hM : bW Z H o 7 s0 [.null, .null, .null, .int 0, .int 0] []) : zM l Z yX11_init cX11_init 1 none { rmk 4 with cells := 79, slots := 71670 } [.ref o] H (nA o s0) 79 71670 (fun v H' => v = none ∧ bW Z H' o 7 s0 [.ref s0, .ref (s0 + 1), .ref (s0 + 40), .int 0, .int 0] ([eVe] ++ [eIm (s0 + 2)] ++ imL Z (s0 + 2) ++ [eIm (s0 + 41)] ++ imL Z (s0 + 41))) := by
  refine zM.introV (own := RX11) ⟨by decide, rfl⟩ (Nat.le_of_ble_eq_true rfl) ?_
  intro p e s m args below meth c Q ls hH C hnm hl hret
  have hS : va_S (nA o s0) s.heap H [] := by rw [hH]; exact va_S.rf
  have hl : lv_has ls 1 [(0, .ref o)] := hl
  refine lv_aload_n C.1 C.2.1 dX11_init_0 rfl (lv_at hl 0 rfl) ?_
  refine z_objI C zw_1_9 hl.1 (Nat.le_of_ble_eq_true rfl) ⟨Nat.le_of_ble_eq_true rfl, Nat.le_of_ble_eq_true rfl⟩ dX11_init_1 ?_
  refine lv_aload_n C.1 C.2.1 dX11_init_4 rfl (lv_at hl 0 rfl) ?_
  refine b_new C hM bi_wsX100 tyX10 tyX10_ok (rfl : vwCl[6]? = some (RX10, TX10, 2)) zw_1_12 zw_1_13 zw_1_14 (gs := [.int 0, .int 0]) (fun j hj => match j, hj with | 0, _ => rfl | 1, _ => rfl) (Nat.le_of_ble_eq_true rfl) (Nat.le_of_ble_eq_true rfl) hS dX11_init_5 (fun H hM hS => ?_)
  refine lv_dup C.1 C.2.1 dX11_init_8 rfl ?_
  refine z_callI C (As := []) (rest := [.ref (s0 + 0), .ref o]) (c_X10_init l Z (hM.pt (j := 0) (k := 1) rfl rfl)) ⟨⟨zw_2_1, zw_1_14, zw_1_23⟩, zd_X10_init⟩ zw_2_0 rfl ⟨Nat.le_of_ble_eq_true rfl, Nat.le_of_ble_eq_true rfl⟩ ⟨rfl, rfl⟩ rfl hl.1 rfl (Nat.le_of_ble_eq_true rfl) dX11_init_9 ⟨Nat.le_of_ble_eq_true rfl, Nat.le_of_ble_eq_true rfl⟩ hS (fun _ h => h.up) (fun v H locs hp_ hS _ hkeep => ?_)
  obtain ⟨rfl, hp_⟩ := hp_
  have hM := hM.call (j := 0) (k := 1) rfl (by omega) hkeep hp_
  have hM : bW Z H o 7 s0 [.null, .null, .null, .int 0, .int 0] ([eVe]) := hM
  refine z_putF C (v := .ref (s0 + 0)) tyX11 hM.1 rfl bi_wsX110 tyX11_ok nmX11 0 (by decide) zw_1_15 rfl rfl hnm rfl rfl rfl (Nat.le_of_ble_eq_true rfl) hS (Or.inl rfl) dX11_init_12 (fun H locs hu hn hS => ?_)
  have hM := hM.put hu hn
  refine lv_aload_n C.1 C.2.1 dX11_init_15 rfl (lv_at hl 0 rfl) ?_
  refine b_new C hM bi_wsX20 tyX2 tyX2_ok (rfl : vwCl[3]? = some (RX2, TX2, 11)) zw_1_16 zw_1_17 zw_1_18 (gs := [.null, .null, .null, .null, .null, .null, .int 0, .int 0, .int 0, .int 0, .int 0]) (fun j hj => match j, hj with | 0, _ => rfl | 1, _ => rfl | 2, _ => rfl | 3, _ => rfl | 4, _ => rfl | 5, _ => rfl | 6, _ => rfl | 7, _ => rfl | 8, _ => rfl | 9, _ => rfl | 10, _ => rfl) (Nat.le_of_ble_eq_true rfl) (Nat.le_of_ble_eq_true rfl) hS dX11_init_16 (fun H hM hS => ?_)
  refine lv_dup C.1 C.2.1 dX11_init_19 rfl ?_
  refine z_callI C (As := []) (rest := [.ref (s0 + 1), .ref o]) (c_X2_init l Z (hM.pt (j := 1) (k := 2) rfl rfl)) ⟨⟨zw_2_11, zw_1_18, zw_2_9⟩, zd_X2_init⟩ zw_2_10 rfl ⟨Nat.le_of_ble_eq_true rfl, Nat.le_of_ble_eq_true rfl⟩ ⟨rfl, rfl⟩ rfl hl.1 rfl (Nat.le_of_ble_eq_true rfl) dX11_init_20 ⟨Nat.le_of_ble_eq_true rfl, Nat.le_of_ble_eq_true rfl⟩ hS (fun _ h => h.up) (fun v H locs hp_ hS _ hkeep => ?_)
  obtain ⟨rfl, hp_⟩ := hp_
  have hM := hM.call (j := 1) (k := 2) rfl (by omega) hkeep hp_
  have hM : bW Z H o 7 s0 [.ref (s0 + 0), .null, .null, .int 0, .int 0] ([eVe] ++ [eIm (s0 + 2)] ++ imL Z (s0 + 2)) := hM
  refine z_put C (v := .ref (s0 + 1)) tyX11 hM.1 rfl bi_wsX110 tyX11_ok nmX11 1 (by decide) zw_1_19 rfl rfl rfl rfl (Nat.le_of_ble_eq_true rfl) hS (Or.inl rfl) dX11_init_23 (fun H locs hu hn hS => ?_)
  have hM := hM.put hu hn
  refine lv_aload_n C.1 C.2.1 dX11_init_26 rfl (lv_at hl 0 rfl) ?_
  refine b_new C hM bi_wsX20 tyX2 tyX2_ok (rfl : vwCl[3]? = some (RX2, TX2, 11)) zw_1_16 zw_1_17 zw_1_18 (gs := [.null, .null, .null, .null, .null, .null, .int 0, .int 0, .int 0, .int 0, .int 0]) (fun j hj => match j, hj with | 0, _ => rfl | 1, _ => rfl | 2, _ => rfl | 3, _ => rfl | 4, _ => rfl | 5, _ => rfl | 6, _ => rfl | 7, _ => rfl | 8, _ => rfl | 9, _ => rfl | 10, _ => rfl) (Nat.le_of_ble_eq_true rfl) (Nat.le_of_ble_eq_true rfl) hS dX11_init_27 (fun H hM hS => ?_)
  refine lv_dup C.1 C.2.1 dX11_init_30 rfl ?_
  refine z_callI C (As := []) (rest := [.ref (s0 + 40), .ref o]) (c_X2_init l Z (hM.pt (j := 40) (k := 41) rfl rfl)) ⟨⟨zw_2_11, zw_1_18, zw_2_9⟩, zd_X2_init⟩ zw_2_10 rfl ⟨Nat.le_of_ble_eq_true rfl, Nat.le_of_ble_eq_true rfl⟩ ⟨rfl, rfl⟩ rfl hl.1 rfl (Nat.le_of_ble_eq_true rfl) dX11_init_31 ⟨Nat.le_of_ble_eq_true rfl, Nat.le_of_ble_eq_true rfl⟩ hS (fun _ h => h.up) (fun v H locs hp_ hS _ hkeep => ?_)
  obtain ⟨rfl, hp_⟩ := hp_
  have hM := hM.call (j := 40) (k := 41) rfl (by omega) hkeep hp_
  have hM : bW Z H o 7 s0 [.ref (s0 + 0), .ref (s0 + 1), .null, .int 0, .int 0] ([eVe] ++ [eIm (s0 + 2)] ++ imL Z (s0 + 2) ++ [eIm (s0 + 41)] ++ imL Z (s0 + 41)) := hM
  refine z_put C (v := .ref (s0 + 40)) tyX11 hM.1 rfl bi_wsX110 tyX11_ok nmX11 2 (by decide) zw_1_20 rfl rfl rfl rfl (Nat.le_of_ble_eq_true rfl) hS (Or.inl rfl) dX11_init_34 (fun H locs hu hn hS => ?_)
  have hM := hM.put hu hn
  refine lv_aload_n C.1 C.2.1 dX11_init_37 rfl (lv_at hl 0 rfl) ?_
  refine lv_iconst (v := zI 0) C.1 C.2.1 dX11_init_38 (by decide) ?_
  refine z_put C (v := zN 0) tyX11 hM.1 rfl bi_wsX110 tyX11_ok nmX11 3 (by decide) zw_1_21 rfl rfl rfl rfl (Nat.le_of_ble_eq_true rfl) hS (Or.inl rfl) dX11_init_39 (fun H locs hu hn hS => ?_)
  have hM := hM.put hu hn
  refine lv_aload_n C.1 C.2.1 dX11_init_42 rfl (lv_at hl 0 rfl) ?_
  refine lv_iconst (v := zI 0) C.1 C.2.1 dX11_init_43 (by decide) ?_
  refine z_put C (v := zN 0) tyX11 hM.1 rfl bi_wsX110 tyX11_ok nmX11 4 (by decide) zw_1_22 rfl rfl rfl rfl (Nat.le_of_ble_eq_true rfl) hS (Or.inl rfl) dX11_init_44 (fun H locs hu hn hS => ?_)
  have hM := hM.put hu hn
  exact hret _ _ _ _ hS ⟨rfl, hM⟩ dX11_init_47

/-- the component, new -/
theorem new_isC {Z : zT} {H : Heap} {o s0 : Nat} (hM : bW Z H o 7 s0 [.ref s0, .ref (s0 + 1), .ref (s0 + 40), .int 0, .int 0] ([eVe] ++ [eIm (s0 + 2)] ++ imL Z (s0 + 2) ++ [eIm (s0 + 41)] ++ imL Z (s0 + 41))) :
    zAt Z H o (.inr (7, rF (imAd (s0 + 1) s0 15) (imAd (s0 + 1) s0 0) (imAd (s0 + 40) s0 0) 0 0)) ∧ isC Z H (imAd (s0 + 1) s0) τ0 [] ∧ isC Z H (imAd (s0 + 40) s0) (vv τ0 τ0) [] ∧ apt o (imAd (s0 + 1) s0) (imAd (s0 + 40) s0) := by
  have hV : zAt Z H s0 eVe := hM.2.2.2 0 _ rfl
  have hlen : (imL Z (s0 + 2)).length = 38 := rfl
  have hlt := hM.2.1
  refine ⟨hM.1, isC_of (Or.inl (by omega)) (hM.2.2.2 1 _ rfl) (fun j e he => ?_) hV, ?_, rfl, fun i hi z => ?_, fun i hi z => ?_, fun i j hi hj hne z => ?_⟩
  · have hj : j < 38 := by have := (List.getElem?_eq_some_iff.mp he).1; exact this
    have := hM.2.2.2 (2 + j) e (by
      rw [List.append_assoc, List.append_assoc, List.getElem?_append_right (by show 2 ≤ _; omega), show 2 + j - ([eVe] ++ [eIm (s0 + 2)]).length = j by show 2 + j - 2 = j; omega, List.getElem?_append_left (by rw [hlen]; exact hj)]
      exact he)
    rw [show s0 + 1 + 1 + j = s0 + (2 + j) by omega]; exact this
  · rw [vv_self rfl rfl]
    refine isC_of (Or.inl (by omega)) (hM.2.2.2 40 _ rfl) (fun j e he => ?_) hV
    have hj : j < 38 := by have := (List.getElem?_eq_some_iff.mp he).1; exact this
    have := hM.2.2.2 (41 + j) e (by
      rw [List.getElem?_append_right (by show 41 ≤ _; omega), show 41 + j - ([eVe] ++ [eIm (s0 + 2)] ++ imL Z (s0 + 2) ++ [eIm (s0 + 41)]).length = j by show 41 + j - 41 = j; omega]
      exact he)
    rw [show s0 + 40 + 1 + j = s0 + (41 + j) by omega]; exact this
  · by_cases h : i = 15
    · subst h; have e : imAd (s0 + 1) s0 15 = s0 := rfl; omega
    · have := imAd_rg (a := s0 + 1) (v := s0) hi h; omega
  · by_cases h : i = 15
    · subst h; have e : imAd (s0 + 40) s0 15 = s0 := rfl; omega
    · have := imAd_rg (a := s0 + 40) (v := s0) hi h; omega
  · have h2 := imAd_rg (a := s0 + 40) (v := s0) hj hne
    by_cases h : i = 15
    · subst h; have e : imAd (s0 + 1) s0 15 = s0 := rfl; omega
    · have := imAd_rg (a := s0 + 1) (v := s0) hi h; omega
