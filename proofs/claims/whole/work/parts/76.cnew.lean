/-! constructors: an object and what it makes, at one address after the other -/
def bW (Z : zT) (H : Heap) (o ci s0 : Nat) (fs : List Value) (L : List va_E) : Prop := zAt Z H o (.inr (ci, fs)) ∧ o < s0 ∧ H.size = s0 + L.length ∧ ∀ j e, L[j]? = some e → zAt Z H (s0 + j) e
abbrev nA (o s0 : Nat) : Nat → Prop := fun q => q = o ∨ s0 ≤ q
section BW
variable {Z : zT} {H H1 : Heap} {o ci s0 : Nat} {fs fs' : List Value} {L L' : List va_E} {e : va_E}
theorem bW.put (h : bW Z H o ci s0 fs L) (u : zUp H H1 o) (n : zAt Z H1 o (.inr (ci, fs'))) : bW Z H1 o ci s0 fs' L := ⟨n, h.2.1, u.1.trans h.2.2.1, fun j e he => u.at (h.2.2.2 j e he) (by have := h.2.1; omega)⟩
theorem bW.new (h : bW Z H o ci s0 fs L) (ho : ∀ q, q < H.size → H1[q]? = H[q]?) (hz : H1.size = H.size + 1) (n : zAt Z H1 H.size e) : bW Z H1 o ci s0 fs (L ++ [e]) := by
  refine ⟨h.1.kept (ho _ h.1.lt), h.2.1, by rw [hz, h.2.2.1, List.length_append]; rfl, fun j e' he => ?_⟩
  rcases Nat.lt_or_ge j L.length with z | z
  · rw [List.getElem?_append_left z] at he
    have := h.2.2.2 j e' he
    exact this.kept (ho _ this.lt)
  · rw [List.getElem?_append_right z] at he
    have hj : j - L.length = 0 := by
      rcases Nat.eq_zero_or_pos (j - L.length) with y | y
      · exact y
      · rw [List.getElem?_eq_none (by simp; omega)] at he; cases he
    rw [hj] at he
    cases he
    have e2 : s0 + j = H.size := by rw [h.2.2.1]; omega
    rw [e2]; exact n
theorem bW.sub (h : bW Z H o ci s0 fs L) {j : Nat} (hj : j < L.length) (hk : ∀ q, q < H.size → q ≠ s0 + j → H1[q]? = H[q]?) (n : zAt Z H1 (s0 + j) e) (hz : H1.size = H.size + L'.length) (hL : ∀ i e, L'[i]? = some e → zAt Z H1 (H.size + i) e) : bW Z H1 o ci s0 fs (L.set j e ++ L') := by
  refine ⟨h.1.kept (hk _ h.1.lt (by have := h.2.1; omega)), h.2.1, by rw [hz, h.2.2.1, List.length_append, List.length_set]; omega, fun i e' he => ?_⟩
  rcases Nat.lt_or_ge i L.length with z | z
  · rw [List.getElem?_append_left (by rw [List.length_set]; exact z)] at he
    by_cases y : i = j
    · subst y
      rw [List.getElem?_set_self z] at he
      cases he; exact n
    · rw [List.getElem?_set_ne (Ne.symm y)] at he
      have := h.2.2.2 i e' he
      exact this.kept (hk _ this.lt (by omega))
  · rw [List.getElem?_append_right (by rw [List.length_set]; exact z), List.length_set] at he
    have := hL _ _ he
    rw [h.2.2.1, show s0 + L.length + (i - L.length) = s0 + i by omega] at this
    exact this
end BW
section BC
variable {p : Program} {l : Launch} {e : Env} {R : Room} {s : State} {m : MethodId} {args : Array Value} {below : List Frame} {meth : Method} {c : Code} {H : Heap} {locs : List Loc} {cells slots : Nat} {Q : State → Prop}
variable {Z : zT} {cc : ByteArray} {nL : Nat} {own : String} {ret : Option FieldType} {A : Nat → Prop} {pc : Nat} {ls : Array Slot} {rest : List Value} {o ci s0 : Nat} {fs : List Value} {L : List va_E}
theorem b_new (C : zC Z A p s m args meth c cc nL own ret) (hM : bW Z H o ci s0 fs L) {cj N idx : Nat} {T : u_T} {C0 : String} (hin : ∀ w ∈ u_ws C0 T N, w ∈ BIG) (ty0 : Nat → FieldType) (hty : ∀ k, k < N → parseFieldDescriptor (T k).2.2.1 = some (ty0 k)) (hc : vwCl[cj]? = some (C0, T, N)) (hcl : Cond.classLink own idx C0 ∈ BIG) (hinst : Cond.instantiable C0 N ∈ BIG) (hini : Cond.initialized C0 ∈ BIG) {gs : List Value} (hfs : ∀ j, j < N → defaultValue (ty0 j) = vp_V gs j) (hcells : cells + 1 ≤ R.cells) (hslots : slots + N ≤ R.slots) (hS : va_S A s.heap H locs) (hdg : decode cc pc = .ok (.new idx, 3))
    (kk : ∀ (H : Heap), bW Z H o ci s0 fs (L ++ [.inr (cj, gs)]) → va_S A s.heap H locs → W p l e R s m args below meth c H locs (cells + 1) (slots + N) Q (F0 m (pc + 3) ls (.ref (s0 + L.length) :: rest))) : W p l e R s m args below meth c H locs cells slots Q (F0 m pc ls rest) :=
  z_new C hin ty0 hty hc hcl hinst hini hfs hcells hslots hS hdg (fun H1 a1 a2 a3 a4 => by rw [hM.2.2.1]; exact kk H1 (hM.new a3 a2 a1) a4)
theorem b_newaI (C : zC Z A p s m args meth c cc nL own ret) (hM : bW Z H o ci s0 fs L) {n : Nat} (hn : ¬ zI (n : Int) < 0) (hN : (zI (n : Int)).toNatClampNeg = n) (hb : n * 8 ≤ 536870912) (hcells : cells + 1 ≤ R.cells) (hslots : slots + n ≤ R.slots) (hS : va_S A s.heap H locs) (hdg : decode cc pc = .ok (.newarray .int, 2))
    (kk : ∀ (H : Heap), bW Z H o ci s0 fs (L ++ [.inl (Z.2.1 1, (n, .inl (fun _ => 0)))]) → va_S A s.heap H locs → W p l e R s m args below meth c H locs (cells + 1) (slots + n) Q (F0 m (pc + 2) ls (.ref (s0 + L.length) :: rest))) : W p l e R s m args below meth c H locs cells slots Q (F0 m pc ls (zN n :: rest)) := by
  refine va_newaK (atype := .int) C.1 C.2.1 (C.2.2.2.2.1 _ zw_2_21) rfl hdg rfl hn hN (by show n * 4 ≤ _; omega) hcells hslots hM.2.2.1 fun H1 cA e1 z1 o1 _ f1 => ?_
  have ec : cA = Z.2.1 1 := Option.some.inj (f1.symm.trans (va_nm_int (C.2.2.2.2.2.1.2 1 _ rfl).2))
  subst ec
  exact kk H1 (hM.new (e := .inl (Z.2.1 1, (n, .inl (fun _ => 0)))) (fun q hq => o1 q (by rw [← hM.2.2.1]; exact hq)) (by rw [z1, hM.2.2.1]) (by rw [hM.2.2.1]; exact e1)) ⟨Nat.le_trans hS.1 (by rw [z1, hM.2.2.1]; omega), fun x h1 h2 => (o1 x (by rw [← hM.2.2.1]; exact Nat.lt_of_lt_of_le h1 hS.1)).trans (hS.2.1 x h1 h2), hS.2.2⟩
theorem b_newaB (C : zC Z A p s m args meth c cc nL own ret) (hM : bW Z H o ci s0 fs L) {n : Nat} (hn : ¬ zI (n : Int) < 0) (hN : (zI (n : Int)).toNatClampNeg = n) (hb : n * 8 ≤ 536870912) (hcells : cells + 1 ≤ R.cells) (hslots : slots + n ≤ R.slots) (hS : va_S A s.heap H locs) (hdg : decode cc pc = .ok (.newarray .byte, 2))
    (kk : ∀ (H : Heap), bW Z H o ci s0 fs (L ++ [.inl (Z.2.1 0, (n, .inl (fun _ => 0)))]) → va_S A s.heap H locs → W p l e R s m args below meth c H locs (cells + 1) (slots + n) Q (F0 m (pc + 2) ls (.ref (s0 + L.length) :: rest))) : W p l e R s m args below meth c H locs cells slots Q (F0 m pc ls (zN n :: rest)) := by
  refine va_newaK (atype := .byte) C.1 C.2.1 (C.2.2.2.2.1 _ zw_3_18) rfl hdg rfl hn hN (by show n * 1 ≤ _; omega) hcells hslots hM.2.2.1 fun H1 cA e1 z1 o1 _ f1 => ?_
  have ec : cA = Z.2.1 0 := Option.some.inj (f1.symm.trans (va_nm_byte (C.2.2.2.2.2.1.2 0 _ rfl).2))
  subst ec
  exact kk H1 (hM.new (e := .inl (Z.2.1 0, (n, .inl (fun _ => 0)))) (fun q hq => o1 q (by rw [← hM.2.2.1]; exact hq)) (by rw [z1, hM.2.2.1]) (by rw [hM.2.2.1]; exact e1)) ⟨Nat.le_trans hS.1 (by rw [z1, hM.2.2.1]; omega), fun x h1 h2 => (o1 x (by rw [← hM.2.2.1]; exact Nat.lt_of_lt_of_le h1 hS.1)).trans (hS.2.1 x h1 h2), hS.2.2⟩
theorem b_newaL (C : zC Z A p s m args meth c cc nL own ret) (hM : bW Z H o ci s0 fs L) {n : Nat} (hn : ¬ zI (n : Int) < 0) (hN : (zI (n : Int)).toNatClampNeg = n) (hb : n * 8 ≤ 536870912) (hcells : cells + 1 ≤ R.cells) (hslots : slots + n ≤ R.slots) (hS : va_S A s.heap H locs) (hdg : decode cc pc = .ok (.newarray .long, 2))
    (kk : ∀ (H : Heap), bW Z H o ci s0 fs (L ++ [.inl (Z.2.1 2, (n, .inr (.inl (fun _ => 0))))]) → va_S A s.heap H locs → W p l e R s m args below meth c H locs (cells + 1) (slots + n) Q (F0 m (pc + 2) ls (.ref (s0 + L.length) :: rest))) : W p l e R s m args below meth c H locs cells slots Q (F0 m pc ls (zN n :: rest)) := by
  refine va_newaK (atype := .long) C.1 C.2.1 (C.2.2.2.2.1 _ zw_5_2) rfl hdg rfl hn hN (by show n * 8 ≤ _; omega) hcells hslots hM.2.2.1 fun H1 cA e1 z1 o1 _ f1 => ?_
  have ec : cA = Z.2.1 2 := Option.some.inj (f1.symm.trans (va_nm_long (C.2.2.2.2.2.1.2 2 _ rfl).2))
  subst ec
  exact kk H1 (hM.new (e := .inl (Z.2.1 2, (n, .inr (.inl (fun _ => 0))))) (fun q hq => o1 q (by rw [← hM.2.2.1]; exact hq)) (by rw [z1, hM.2.2.1]) (by rw [hM.2.2.1]; exact e1)) ⟨Nat.le_trans hS.1 (by rw [z1, hM.2.2.1]; omega), fun x h1 h2 => (o1 x (by rw [← hM.2.2.1]; exact Nat.lt_of_lt_of_le h1 hS.1)).trans (hS.2.1 x h1 h2), hS.2.2⟩
end BC
theorem zmax {a b : Nat} (ha : a < 2147483648) (hb : b < 2147483648) : (if zI (a : Int) < zI (b : Int) then zI (b : Int) else zI (a : Int)) = zI ((max a b : Nat) : Int) := by
  by_cases h : a < b
  · rw [if_pos ((zI_lt (by omega)).mpr (by omega)), Nat.max_eq_right (by omega)]
  · rw [if_neg (fun z => h (by have := (zI_lt (by omega)).mp z; omega)), Nat.max_eq_left (by omega)]

set_option maxHeartbeats 4000000 in
set_option maxRecDepth 20000 in
theorem c_X0_init (l : Launch) (Z : zT) {H : Heap} {o s0 : Nat} (hM : bW Z H o 1 s0 [.int 0, .int 0, .int 0, .int 0, .int 0, .int 0, .int 0, .int 0, .int 0, .int 0] []) : zM l Z yX0_init cX0_init 1 none { rmk 1 with cells := 0, slots := 0 } [.ref o] H (nA o s0) 0 0 (fun v H' => v = none ∧ bW Z H' o 1 s0 [.int 0, .int 0, .int 0, .int 0, .int 0, .int 0, .int 0, .int 0, .int 0, .int 0] []) := by
  refine zM.introV (own := RX0) ⟨by decide, rfl⟩ (Nat.le_of_ble_eq_true rfl) ?_
  intro p e s m args below meth c Q ls hH C hnm hl hret
  have hS : va_S (nA o s0) s.heap H [] := by rw [hH]; exact va_S.rf
  have hl : lv_has ls 1 [(0, .ref o)] := hl
  refine lv_aload_n C.1 C.2.1 dX0_init_0 rfl (lv_at hl 0 rfl) ?_
  refine z_objI C zw_4_12 hl.1 (Nat.le_of_ble_eq_true rfl) ⟨Nat.le_of_ble_eq_true rfl, Nat.le_of_ble_eq_true rfl⟩ dX0_init_1 ?_
  exact hret _ _ _ _ hS ⟨rfl, hM⟩ dX0_init_4

set_option maxHeartbeats 4000000 in
set_option maxRecDepth 20000 in
theorem c_X1_init (l : Launch) (Z : zT) {H : Heap} {o s0 : Nat} (hM : bW Z H o 2 s0 [.null, .int 0] []) : zM l Z yX1_init cX1_init 2 none { rmk 2 with cells := 1, slots := 16000 } [.ref o, zN 16000] H (nA o s0) 1 16000 (fun v H' => v = none ∧ bW Z H' o 2 s0 [.ref (s0 + 0), zN 0] [.inl (Z.2.1 0, (16000, .inl (fun _ => 0)))]) := by
  refine zM.introV (own := RX1) ⟨by decide, rfl⟩ (Nat.le_of_ble_eq_true rfl) ?_
  intro p e s m args below meth c Q ls hH C hnm hl hret
  have hS : va_S (nA o s0) s.heap H [] := by rw [hH]; exact va_S.rf
  have hl : lv_has ls 2 [(0, .ref o), (1, zN 16000)] := hl
  refine lv_aload_n C.1 C.2.1 dX1_init_0 rfl (lv_at hl 0 rfl) ?_
  refine z_objI C zw_3_13 hl.1 (Nat.le_of_ble_eq_true rfl) ⟨Nat.le_of_ble_eq_true rfl, Nat.le_of_ble_eq_true rfl⟩ dX1_init_1 ?_
  refine lv_aload_n C.1 C.2.1 dX1_init_4 rfl (lv_at hl 0 rfl) ?_
  refine lv_iload_n C.1 C.2.1 dX1_init_5 rfl (lv_at hl 1 rfl) ?_
  refine lv_iconst (v := zI 0) C.1 C.2.1 dX1_init_6 (by decide) ?_
  refine va_mmax C.1 C.2.1 (C.2.2.1.trans hl.1.symm) C.2.2.2.1 (C.2.2.2.2.1 _ zw_3_14) (C.2.2.2.2.1 _ zw_3_15) (C.2.2.2.2.1 _ zw_3_16) (C.2.2.2.2.1 _ zw_3_17) (Nat.le_of_ble_eq_true rfl) (Nat.le_of_ble_eq_true rfl) (Nat.zero_le _) (Nat.zero_le _) dX1_init_7 ?_
  refine z_re (y := zI ((max 16000 0 : Nat) : Int)) (zmax (a := 16000) (b := 0) (by decide) (by decide)) ?_
  refine b_newaB C hM (n := 16000) (by decide) (by decide) (by decide) (Nat.le_of_ble_eq_true rfl) (Nat.le_of_ble_eq_true rfl) hS dX1_init_10 (fun H hM hS => ?_)
  refine z_putF C (v := .ref (s0 + 0)) tyX1 hM.1 rfl bi_wsX10 tyX1_ok nmX1 0 (by decide) zw_3_19 rfl rfl hnm rfl rfl rfl (Nat.le_of_ble_eq_true rfl) hS (Or.inl rfl) dX1_init_12 (fun H locs hu hn hS => ?_)
  have hM := hM.put hu hn
  refine lv_aload_n C.1 C.2.1 dX1_init_15 rfl (lv_at hl 0 rfl) ?_
  refine lv_iconst (v := zI 0) C.1 C.2.1 dX1_init_16 (by decide) ?_
  refine z_put C (v := zN 0) tyX1 hM.1 rfl bi_wsX10 tyX1_ok nmX1 1 (by decide) zw_3_20 rfl rfl rfl rfl (Nat.le_of_ble_eq_true rfl) hS (Or.inl rfl) dX1_init_17 (fun H locs hu hn hS => ?_)
  have hM := hM.put hu hn
  exact hret _ _ _ _ hS ⟨rfl, hM⟩ dX1_init_20

set_option maxHeartbeats 4000000 in
set_option maxRecDepth 20000 in
theorem c_X7_init (l : Launch) (Z : zT) {H : Heap} {o s0 : Nat} {b : Nat} (hM : bW Z H o 4 s0 [.null, .null, .null, .null, .null, .null, .null, .null, .int 0] []) : zM l Z yX7_init cX7_init 2 none { rmk 2 with cells := 7, slots := 3500 } [.ref o, .ref b] H (nA o s0) 7 3500 (fun v H' => v = none ∧ bW Z H' o 4 s0 [.ref b, .ref (s0 + 0), .ref (s0 + 1), .ref (s0 + 2), .ref (s0 + 3), .ref (s0 + 4), .ref (s0 + 5), .ref (s0 + 6), zN 0] [.inl (Z.2.1 1, (500, .inl (fun _ => 0))), .inl (Z.2.1 1, (500, .inl (fun _ => 0))), .inl (Z.2.1 1, (500, .inl (fun _ => 0))), .inl (Z.2.1 1, (500, .inl (fun _ => 0))), .inl (Z.2.1 1, (500, .inl (fun _ => 0))), .inl (Z.2.1 1, (500, .inl (fun _ => 0))), .inl (Z.2.1 1, (500, .inl (fun _ => 0)))]) := by
  refine zM.introV (own := RX7) ⟨by decide, rfl⟩ (Nat.le_of_ble_eq_true rfl) ?_
  intro p e s m args below meth c Q ls hH C hnm hl hret
  have hS : va_S (nA o s0) s.heap H [] := by rw [hH]; exact va_S.rf
  have hl : lv_has ls 2 [(0, .ref o), (1, .ref b)] := hl
  refine lv_aload_n C.1 C.2.1 dX7_init_0 rfl (lv_at hl 0 rfl) ?_
  refine z_objI C zw_4_0 hl.1 (Nat.le_of_ble_eq_true rfl) ⟨Nat.le_of_ble_eq_true rfl, Nat.le_of_ble_eq_true rfl⟩ dX7_init_1 ?_
  refine lv_aload_n C.1 C.2.1 dX7_init_4 rfl (lv_at hl 0 rfl) ?_
  refine lv_aload_n C.1 C.2.1 dX7_init_5 rfl (lv_at hl 1 rfl) ?_
  refine z_putF C (v := .ref b) tyX7 hM.1 rfl bi_wsX70 tyX7_ok nmX7 0 (by decide) zw_4_1 rfl rfl hnm rfl rfl rfl (Nat.le_of_ble_eq_true rfl) hS (Or.inl rfl) dX7_init_6 (fun H locs hu hn hS => ?_)
  have hM := hM.put hu hn
  refine lv_aload_n C.1 C.2.1 dX7_init_9 rfl (lv_at hl 0 rfl) ?_
  refine lv_sipush (v := zI 500) C.1 C.2.1 dX7_init_10 (by decide) ?_
  refine b_newaI C hM (n := 500) (by decide) (by decide) (by decide) (Nat.le_of_ble_eq_true rfl) (Nat.le_of_ble_eq_true rfl) hS dX7_init_13 (fun H hM hS => ?_)
  refine z_putF C (v := .ref (s0 + 0)) tyX7 hM.1 rfl bi_wsX70 tyX7_ok nmX7 1 (by decide) zw_4_2 rfl rfl hnm rfl rfl rfl (Nat.le_of_ble_eq_true rfl) hS (Or.inl rfl) dX7_init_15 (fun H locs hu hn hS => ?_)
  have hM := hM.put hu hn
  refine lv_aload_n C.1 C.2.1 dX7_init_18 rfl (lv_at hl 0 rfl) ?_
  refine lv_sipush (v := zI 500) C.1 C.2.1 dX7_init_19 (by decide) ?_
  refine b_newaI C hM (n := 500) (by decide) (by decide) (by decide) (Nat.le_of_ble_eq_true rfl) (Nat.le_of_ble_eq_true rfl) hS dX7_init_22 (fun H hM hS => ?_)
  refine z_putF C (v := .ref (s0 + 1)) tyX7 hM.1 rfl bi_wsX70 tyX7_ok nmX7 2 (by decide) zw_4_3 rfl rfl hnm rfl rfl rfl (Nat.le_of_ble_eq_true rfl) hS (Or.inl rfl) dX7_init_24 (fun H locs hu hn hS => ?_)
  have hM := hM.put hu hn
  refine lv_aload_n C.1 C.2.1 dX7_init_27 rfl (lv_at hl 0 rfl) ?_
  refine lv_sipush (v := zI 500) C.1 C.2.1 dX7_init_28 (by decide) ?_
  refine b_newaI C hM (n := 500) (by decide) (by decide) (by decide) (Nat.le_of_ble_eq_true rfl) (Nat.le_of_ble_eq_true rfl) hS dX7_init_31 (fun H hM hS => ?_)
  refine z_putF C (v := .ref (s0 + 2)) tyX7 hM.1 rfl bi_wsX70 tyX7_ok nmX7 3 (by decide) zw_4_4 rfl rfl hnm rfl rfl rfl (Nat.le_of_ble_eq_true rfl) hS (Or.inl rfl) dX7_init_33 (fun H locs hu hn hS => ?_)
  have hM := hM.put hu hn
  refine lv_aload_n C.1 C.2.1 dX7_init_36 rfl (lv_at hl 0 rfl) ?_
  refine lv_sipush (v := zI 500) C.1 C.2.1 dX7_init_37 (by decide) ?_
  refine b_newaI C hM (n := 500) (by decide) (by decide) (by decide) (Nat.le_of_ble_eq_true rfl) (Nat.le_of_ble_eq_true rfl) hS dX7_init_40 (fun H hM hS => ?_)
  refine z_putF C (v := .ref (s0 + 3)) tyX7 hM.1 rfl bi_wsX70 tyX7_ok nmX7 4 (by decide) zw_4_5 rfl rfl hnm rfl rfl rfl (Nat.le_of_ble_eq_true rfl) hS (Or.inl rfl) dX7_init_42 (fun H locs hu hn hS => ?_)
  have hM := hM.put hu hn
  refine lv_aload_n C.1 C.2.1 dX7_init_45 rfl (lv_at hl 0 rfl) ?_
  refine lv_sipush (v := zI 500) C.1 C.2.1 dX7_init_46 (by decide) ?_
  refine b_newaI C hM (n := 500) (by decide) (by decide) (by decide) (Nat.le_of_ble_eq_true rfl) (Nat.le_of_ble_eq_true rfl) hS dX7_init_49 (fun H hM hS => ?_)
  refine z_putF C (v := .ref (s0 + 4)) tyX7 hM.1 rfl bi_wsX70 tyX7_ok nmX7 5 (by decide) zw_4_6 rfl rfl hnm rfl rfl rfl (Nat.le_of_ble_eq_true rfl) hS (Or.inl rfl) dX7_init_51 (fun H locs hu hn hS => ?_)
  have hM := hM.put hu hn
  refine lv_aload_n C.1 C.2.1 dX7_init_54 rfl (lv_at hl 0 rfl) ?_
  refine lv_sipush (v := zI 500) C.1 C.2.1 dX7_init_55 (by decide) ?_
  refine b_newaI C hM (n := 500) (by decide) (by decide) (by decide) (Nat.le_of_ble_eq_true rfl) (Nat.le_of_ble_eq_true rfl) hS dX7_init_58 (fun H hM hS => ?_)
  refine z_putF C (v := .ref (s0 + 5)) tyX7 hM.1 rfl bi_wsX70 tyX7_ok nmX7 6 (by decide) zw_4_7 rfl rfl hnm rfl rfl rfl (Nat.le_of_ble_eq_true rfl) hS (Or.inl rfl) dX7_init_60 (fun H locs hu hn hS => ?_)
  have hM := hM.put hu hn
  refine lv_aload_n C.1 C.2.1 dX7_init_63 rfl (lv_at hl 0 rfl) ?_
  refine lv_sipush (v := zI 500) C.1 C.2.1 dX7_init_64 (by decide) ?_
  refine b_newaI C hM (n := 500) (by decide) (by decide) (by decide) (Nat.le_of_ble_eq_true rfl) (Nat.le_of_ble_eq_true rfl) hS dX7_init_67 (fun H hM hS => ?_)
  refine z_putF C (v := .ref (s0 + 6)) tyX7 hM.1 rfl bi_wsX70 tyX7_ok nmX7 7 (by decide) zw_4_8 rfl rfl hnm rfl rfl rfl (Nat.le_of_ble_eq_true rfl) hS (Or.inl rfl) dX7_init_69 (fun H locs hu hn hS => ?_)
  have hM := hM.put hu hn
  refine lv_aload_n C.1 C.2.1 dX7_init_72 rfl (lv_at hl 0 rfl) ?_
  refine lv_iconst (v := zI 0) C.1 C.2.1 dX7_init_73 (by decide) ?_
  refine z_put C (v := zN 0) tyX7 hM.1 rfl bi_wsX70 tyX7_ok nmX7 8 (by decide) zw_4_9 rfl rfl rfl rfl (Nat.le_of_ble_eq_true rfl) hS (Or.inl rfl) dX7_init_74 (fun H locs hu hn hS => ?_)
  have hM := hM.put hu hn
  exact hret _ _ _ _ hS ⟨rfl, hM⟩ dX7_init_77

theorem c_clear1 (l : Launch) (Z : zT) {H : Heap} {o s0 : Nat} (hM : bW Z H o 6 s0 [.int 0, .int 0] []) : zM l Z yX10_clear cX10_clear 1 none (rmk 1) [.ref o] H (nA o s0) 0 0 (fun v H' => v = none ∧ bW Z H' o 6 s0 [zN 0, zV (-1)] []) := by
  refine zM.introV (own := RX10) ⟨by decide, rfl⟩ (Nat.le_of_ble_eq_true rfl) ?_
  intro p e s m args below meth c Q ls hH C hnm hl hret
  have hS : va_S (nA o s0) s.heap H [] := by rw [hH]; exact va_S.rf
  have hl : lv_has ls 1 [(0, .ref o)] := hl
  refine lv_aload_n C.1 C.2.1 dX10_clear_0 rfl (lv_at hl 0 rfl) ?_
  refine lv_iconst (v := zI 0) C.1 C.2.1 dX10_clear_1 (by decide) ?_
  refine z_put C (v := zN 0) tyX10 hM.1 rfl bi_wsX100 tyX10_ok nmX10 0 (by decide) zw_2_7 rfl rfl rfl rfl (Nat.le_of_ble_eq_true rfl) hS (Or.inl rfl) dX10_clear_2 (fun H locs hu hn hS => ?_)
  have hM := hM.put hu hn
  refine lv_aload_n C.1 C.2.1 dX10_clear_5 rfl (lv_at hl 0 rfl) ?_
  refine lv_iconst (v := zI (-1)) C.1 C.2.1 dX10_clear_6 (by decide) ?_
  refine z_put C (v := zV (-1)) tyX10 hM.1 rfl bi_wsX100 tyX10_ok nmX10 1 (by decide) zw_2_8 rfl rfl rfl rfl (Nat.le_of_ble_eq_true rfl) hS (Or.inl rfl) dX10_clear_7 (fun H locs hu hn hS => ?_)
  have hM := hM.put hu hn
  exact hret _ _ _ _ hS ⟨rfl, hM⟩ dX10_clear_10

set_option maxHeartbeats 4000000 in
set_option maxRecDepth 20000 in
theorem c_X10_init (l : Launch) (Z : zT) {H : Heap} {o s0 : Nat} (hM : bW Z H o 6 s0 [.int 0, .int 0] []) : zM l Z yX10_init cX10_init 1 none { rmk 2 with cells := 0, slots := 0 } [.ref o] H (nA o s0) 0 0 (fun v H' => v = none ∧ bW Z H' o 6 s0 [zN 0, zV (-1)] []) := by
  refine zM.introV (own := RX10) ⟨by decide, rfl⟩ (Nat.le_of_ble_eq_true rfl) ?_
  intro p e s m args below meth c Q ls hH C hnm hl hret
  have hS : va_S (nA o s0) s.heap H [] := by rw [hH]; exact va_S.rf
  have hl : lv_has ls 1 [(0, .ref o)] := hl
  refine lv_aload_n C.1 C.2.1 dX10_init_0 rfl (lv_at hl 0 rfl) ?_
  refine z_objI C zw_2_2 hl.1 (Nat.le_of_ble_eq_true rfl) ⟨Nat.le_of_ble_eq_true rfl, Nat.le_of_ble_eq_true rfl⟩ dX10_init_1 ?_
  refine lv_aload_n C.1 C.2.1 dX10_init_4 rfl (lv_at hl 0 rfl) ?_
  refine z_callV C (As := []) (rest := []) (c_clear1 l Z hM) hM.1 rfl ⟨⟨zw_2_6, zw_1_14, zw_2_3⟩, zd_X10_clear⟩ zw_2_4 zw_2_5 ⟨Nat.le_of_ble_eq_true rfl, Nat.le_of_ble_eq_true rfl⟩ ⟨rfl, rfl⟩ rfl hl.1 rfl (Nat.le_of_ble_eq_true rfl) dX10_init_5 ⟨Nat.le_of_ble_eq_true rfl, Nat.le_of_ble_eq_true rfl⟩ hS (fun _ h => h) (fun v H locs hp_ hS _ _ => ?_)
  obtain ⟨rfl, hM⟩ := hp_
  exact hret _ _ _ _ hS ⟨rfl, hM⟩ dX10_init_8
