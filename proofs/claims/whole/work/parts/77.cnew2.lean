/-! constructors of an image and of the component -/
section BW2
variable {Z : zT} {H H1 : Heap} {o ci s0 cj : Nat} {fs gs : List Value} {L L' : List va_E} {e : va_E}
theorem bW.pt (hM : bW Z H o ci s0 fs L) {j k : Nat} (hk : L.length = k) (hj : L[j]? = some (.inr (cj, gs))) : bW Z H (s0 + j) cj (s0 + k) gs [] :=
  ⟨hM.2.2.2 j _ hj, by have := (List.getElem?_eq_some_iff.mp hj).1; omega, by rw [hM.2.2.1, hk]; rfl, fun _ _ h => by simp at h⟩
theorem bW.call (hM : bW Z H o ci s0 fs L) {j k : Nat} (hk : L.length = k) (hj : j < k) (hkeep : ∀ q : Nat, q < H.size → ¬ nA (s0 + j) (s0 + k) q → H1[q]? = H[q]?) (hb : bW Z H1 (s0 + j) cj (s0 + k) gs L') : bW Z H1 o ci s0 fs (L.set j (.inr (cj, gs)) ++ L') :=
  hM.sub (by omega) (fun q hq hn => hkeep q hq (fun z => z.elim hn (fun z => by have := hM.2.2.1; omega))) hb.1 (by rw [hb.2.2.1, hM.2.2.1, hk]) (fun i e he => by rw [hM.2.2.1, hk]; exact hb.2.2.2 i e he)
theorem bW.upd (hM : bW Z H o ci s0 fs L) {j : Nat} (hj : j < L.length) (u : zUp H H1 (s0 + j)) (n : zAt Z H1 (s0 + j) e) : bW Z H1 o ci s0 fs (L.set j e) := by
  have := hM.sub (L' := []) hj (fun q _ hn => u.2 q hn) n u.1 (fun i e he => by simp at he)
  rwa [List.append_nil] at this
theorem nA.up {o s0 j k : Nat} {q : Nat} (h : nA (s0 + j) (s0 + k) q) : nA o s0 q := h.elim (fun z => Or.inr (by omega)) (fun z => Or.inr (by omega))
end BW2
section BC2
variable {p : Program} {l : Launch} {e : Env} {R : Room} {s : State} {m : MethodId} {args : Array Value} {below : List Frame} {meth : Method} {c : Code} {H : Heap} {locs : List Loc} {cells slots : Nat} {Q : State → Prop}
variable {Z : zT} {cc : ByteArray} {nL : Nat} {own : String} {ret : Option FieldType} {A : Nat → Prop} {pc : Nat} {ls : Array Slot} {rest st0 : List Value} {o ci s0 : Nat} {fs : List Value} {L : List va_E}
abbrev arE (Z : zT) (n : Nat) (f : Nat → Option Nat) : va_E := .inl (Z.2.1 3, (n, .inr (.inr (.inr (.inr f)))))
theorem b_newaR (C : zC Z A p s m args meth c cc nL own ret) (hM : bW Z H o ci s0 fs L) {idx n : Nat} (hcl : Cond.classLink own idx "FileRules$Body" ∈ BIG) (hn : ¬ zI (n : Int) < 0) (hN : (zI (n : Int)).toNatClampNeg = n) (hb : n * 8 ≤ 536870912) (hcells : cells + 1 ≤ R.cells) (hslots : slots + n ≤ R.slots) (hS : va_S A s.heap H locs) (hdg : decode cc pc = .ok (.anewarray idx, 3))
    (kk : ∀ (H : Heap), bW Z H o ci s0 fs (L ++ [arE Z n (fun _ => none)]) → va_S A s.heap H locs → W p l e R s m args below meth c H locs (cells + 1) (slots + n) Q (F0 m (pc + 3) ls (.ref (s0 + L.length) :: rest))) : W p l e R s m args below meth c H locs cells slots Q (F0 m pc ls (zN n :: rest)) := by
  refine W.anew C.1 C.2.1 C.2.2.2.1 (C.2.2.2.2.1 _ hcl) (va_AO.use C.2.2.2.2.2.2.2.2.2.1.2.2.2.2.2.2.2.2.2.2.2.1) rfl hdg rfl hn (by rw [hN]; omega) hcells (by rw [hN]; exact hslots) fun cA kA comp f1 f2 f3 f4 => ?_
  have ec : cA = Z.2.1 3 := by
    obtain ⟨_, _, _, _, _, g4⟩ := (C.2.2.2.2.2.1.2 3 _ rfl).2
    exact Option.some.inj (f1.symm.trans g4)
  subst ec
  rw [hN]
  generalize hH1 : H.push ({ cls := Z.2.1 3, slots := Array.replicate n .null, vm := .none } : Cell) = H1
  have z1 : H1.size = H.size + 1 := by rw [← hH1, Array.size_push]
  have e1 : H1[H.size]? = some (arrV (Z.2.1 3) n (fun _ => .null)) := by rw [← hH1, Array.getElem?_push_size, ← arrV_new]
  have o1 : ∀ q : Nat, q < H.size → H1[q]? = H[q]? := fun q hq => by rw [← hH1, Array.getElem?_push, if_neg (Nat.ne_of_lt hq)]
  rw [show H.size = s0 + L.length from hM.2.2.1]
  refine kk H1 (hM.new (e := arE Z n (fun _ => none)) o1 z1 ?_) ⟨Nat.le_trans hS.1 (by omega), fun x h1 h2 => (o1 x (Nat.lt_of_lt_of_le h1 hS.1)).trans (hS.2.1 x h1 h2), hS.2.2⟩
  show H1[H.size]? = some (vp_cell _ _)
  rw [vp_cell_q]
  exact e1
theorem b_aast (C : zC Z A p s m args meth c cc nL own ret) (hM : bW Z H o ci s0 fs L) {j jv n k : Nat} {f : Nat → Option Nat} {gs : List Value} (hj : L[j]? = some (arE Z n f)) (hv : L[jv]? = some (.inr (1, gs))) (hA : ∀ q, s0 ≤ q → A q) {i : Int32} (hi : i = nI k) (hk : k < n) (hn : n < 2 ^ 31) (hS : va_S A s.heap H locs) (hdg : decode cc pc = .ok (.aastore, 1))
    (kk : ∀ (H : Heap) (locs : List Loc), bW Z H o ci s0 fs (L.set j (arE Z n (va_up f k (some (s0 + jv))))) → va_S A s.heap H locs → W p l e R s m args below meth c H locs cells slots Q (F0 m (pc + 1) ls rest)) : W p l e R s m args below meth c H locs cells slots Q (F0 m pc ls (.ref (s0 + jv) :: .int i :: .ref (s0 + j) :: rest)) := by
  subst hi
  have hin : vp_in (nI k) n := vp_in_nI hk hn
  have h0 : ¬ nI k < 0 := fun q => hin (Or.inl q)
  have hc : (nI k).toNatClampNeg = k := nI_clamp (by omega)
  obtain ⟨r', hr', cellV, g1, g2, g3, -⟩ := hM.2.2.2 jv _ hv
  have hcls := (C.2.2.2.2.2.1.1 1 _ rfl).2
  obtain ⟨kA, comp, k1, k2, k3, -⟩ := (C.2.2.2.2.2.1.2 3 _ rfl).2
  have hcomp : comp = Z.1.1 1 := Option.some.inj (k3.symm.trans hcls.1)
  subst hcomp
  obtain ⟨kC, hkC, -⟩ := hcls.2
  have ha := hM.2.2.2 j _ hj
  refine W.aast C.1 C.2.1 ha (fun q h => by cases h) (fun h => by cases h) k1 k2 rfl hkC ⟨h0, by show _ < (arrV _ _ _).slots.size; rw [arrV_size, hc]; exact hk⟩ g1 (fun q h => by rw [g3] at h; cases h) (by rw [g2]; exact hkC) (by rw [g2]; exact va_assign hcls) rfl rfl hdg fun H1 e z oq => ?_
  refine kk H1 _ (hM.upd (List.getElem?_eq_some_iff.mp hj).1 ⟨z, oq⟩ ?_) (hS.put z oq (hA _ (by omega)))
  show H1[s0 + j]? = some (vp_cell _ _)
  rw [e]
  rw [vp_cell_q, vp_cell_q, arrV_store, hc]
  congr 2
  funext q
  by_cases hq : q = k
  · subst hq
    simp [updV, va_up, va_rf]
  · simp [updV, va_up, hq]
theorem z_callIN (C : zC Z A p s m args meth c cc nL own ret) {y : MethodName} {bytes : ByteArray} {maxL idx b mc ms n : Nat} {rm : Room} {As : List Value} {A1 : Nat → Prop} {post : Option Value → Heap → Prop} (hM : zM l Z y bytes maxL none rm (.ref b :: As) H A1 mc ms post) (hw : zWN y bytes maxL none n) (hl : (own, idx, y) ∈ zNest) (hi : Cond.instanceMethod y ∈ BIG) (hy : y.name = "<init>") (hR : zR R rm maxL) (hm : rm.cells = mc ∧ rm.slots = ms) (hn : As.length = n) (hsz : ls.size = nL) (hst : st0 = As.reverse ++ .ref b :: rest) (hW : (rest.map fun v => v.category).sum ≤ 8) (hdg : decode cc pc = .ok (.invokespecial idx, 3)) (hf : cells + mc ≤ R.cells ∧ slots + ms ≤ R.slots) (hS : va_S A s.heap H locs) (hA : ∀ q, A1 q → A q)
    (kk : ∀ (v : Option Value) (H' : Heap) (locs' : List Loc), post v H' → va_S A s.heap H' locs' → H.size ≤ H'.size → (∀ q : Nat, q < H.size → ¬ A1 q → H'[q]? = H[q]?) → W p l e R s m args below meth c H' locs' (cells + mc) (slots + ms) Q (F0 m (pc + 3) ls (v.toList ++ rest))) : W p l e R s m args below meth c H locs cells slots Q (F0 m pc ls st0) := by
  obtain ⟨rfl, rfl⟩ := hm
  exact z_fin (va_runIN (As := As) (rest := rest) (host := "FileRules") ⟨C.1, C.2.1, C.2.2.1, C.2.2.2.1, C.2.2.2.2.1⟩ hM ⟨z_cn C hw hl hR, hy, C.2.2.2.2.1 _ hi⟩ (z_pre C hS hA) rfl hn hsz hst (lv_room hW) hdg hf) hS hA kk
end BC2
/-! an image's cells -/
abbrev eBd : va_E := .inr (1, [.int 0, .int 0, .int 0, .int 0, .int 0, .int 0, .int 0, .int 0, .int 0, .int 0])
abbrev eI (Z : zT) (n : Nat) : va_E := .inl (Z.2.1 1, (n, .inl (fun _ => 0)))
def imP (Z : zT) (s0 : Nat) : List va_E := [.inr (2, [.ref (s0 + 1), .int 0]), .inl (Z.2.1 0, (16000, .inl (fun _ => 0))), .inr (4, [.ref s0, .ref (s0 + 3), .ref (s0 + 4), .ref (s0 + 5), .ref (s0 + 6), .ref (s0 + 7), .ref (s0 + 8), .ref (s0 + 9), .int 0]), eI Z 500, eI Z 500, eI Z 500, eI Z 500, eI Z 500, eI Z 500, eI Z 500, eI Z 24, eI Z 24]
def bdF (s0 k : Nat) : Nat → Option Nat := fun j => if j < k then some (s0 + 13 + j) else none
def imB (Z : zT) (s0 k : Nat) : List va_E := imP Z s0 ++ (arE Z 24 (bdF s0 k) :: List.replicate k eBd)
def imL (Z : zT) (s0 : Nat) : List va_E := imB Z s0 24 ++ [eI Z 16000]
theorem imB_len (Z : zT) (s0 k : Nat) : (imB Z s0 k).length = 13 + k := by unfold imB; rw [List.length_append, List.length_cons, List.length_replicate]; show 12 + (k + 1) = _; omega
theorem imB_0 (Z : zT) (s0 : Nat) : imB Z s0 0 = imP Z s0 ++ [arE Z 24 (fun _ => none)] := by
  unfold imB
  rw [show bdF s0 0 = fun _ => none from funext fun j => by simp [bdF]]
  rfl
theorem imB_arr (Z : zT) (s0 k : Nat) (x : List va_E) : (imB Z s0 k ++ x)[12]? = some (arE Z 24 (bdF s0 k)) := rfl
theorem imB_step (Z : zT) (s0 k : Nat) : (imB Z s0 k ++ [eBd]).set 12 (arE Z 24 (va_up (bdF s0 k) k (some (s0 + (imB Z s0 k).length)))) = imB Z s0 (k + 1) := by
  rw [imB_len]
  have hf : va_up (bdF s0 k) k (some (s0 + (13 + k))) = bdF s0 (k + 1) := by
    funext j
    unfold va_up bdF
    by_cases h : j = k
    · subst h; simp; omega
    · by_cases h2 : j < k
      · simp [h, h2, show j < k + 1 by omega]
      · simp [h, h2, show ¬ j < k + 1 by omega]
  rw [hf]
  unfold imB
  rw [List.replicate_succ']
  rfl

set_option maxHeartbeats 4000000 in
set_option maxRecDepth 20000 in
theorem c_X2_init (l : Launch) (Z : zT) {H : Heap} {o s0 : Nat} (hM : bW Z H o 3 s0 [.null, .null, .null, .null, .null, .null, .int 0, .int 0, .int 0, .int 0, .int 0] []) : zM l Z yX2_init cX2_init 2 none { rmk 3 with cells := 38, slots := 35823 } [.ref o] H (nA o s0) 38 35823 (fun v H' => v = none ∧ bW Z H' o 3 s0 [.ref s0, .ref (s0 + 2), .ref (s0 + 10), .ref (s0 + 11), .ref (s0 + 12), .ref (s0 + 37), .int 0, .int 0, .int 0, .int 0, .int 0] (imL Z s0)) := by
  refine zM.introV (own := RX2) ⟨by decide, rfl⟩ (Nat.le_of_ble_eq_true rfl) ?_
  intro p e s m args below meth c Q ls hH C hnm hl hret
  have hS : va_S (nA o s0) s.heap H [] := by rw [hH]; exact va_S.rf
  have hl : lv_has ls 2 [(0, .ref o)] := hl
  refine lv_aload_n C.1 C.2.1 dX2_init_0 rfl (lv_at hl 0 rfl) ?_
  refine z_objI C zw_2_12 hl.1 (Nat.le_of_ble_eq_true rfl) ⟨Nat.le_of_ble_eq_true rfl, Nat.le_of_ble_eq_true rfl⟩ dX2_init_1 ?_
  refine lv_aload_n C.1 C.2.1 dX2_init_4 rfl (lv_at hl 0 rfl) ?_
  refine b_new C hM bi_wsX10 tyX1 tyX1_ok (rfl : vwCl[2]? = some (RX1, TX1, 2)) zw_2_13 zw_2_14 zw_2_15 (gs := [.null, .int 0]) (fun j hj => match j, hj with | 0, _ => rfl | 1, _ => rfl) (Nat.le_of_ble_eq_true rfl) (Nat.le_of_ble_eq_true rfl) hS dX2_init_5 (fun H hM hS => ?_)
  refine lv_dup C.1 C.2.1 dX2_init_8 rfl ?_
  refine lv_sipush (v := zI 16000) C.1 C.2.1 dX2_init_9 (by decide) ?_
  refine z_callI C (As := [zN 16000]) (rest := [.ref (s0 + 0), .ref o]) (c_X1_init l Z (hM.pt (j := 0) (k := 1) rfl rfl)) ⟨⟨zw_3_12, zw_2_15, zw_3_10⟩, zd_X1_init⟩ zw_3_11 rfl ⟨Nat.le_of_ble_eq_true rfl, Nat.le_of_ble_eq_true rfl⟩ ⟨rfl, rfl⟩ rfl hl.1 rfl (Nat.le_of_ble_eq_true rfl) dX2_init_12 ⟨Nat.le_of_ble_eq_true rfl, Nat.le_of_ble_eq_true rfl⟩ hS (fun _ h => h.up) (fun v H locs hp_ hS _ hkeep => ?_)
  obtain ⟨rfl, hp_⟩ := hp_
  have hM := hM.call (j := 0) (k := 1) rfl (by decide) hkeep hp_
  have hM : bW Z H o 3 s0 [.null, .null, .null, .null, .null, .null, .int 0, .int 0, .int 0, .int 0, .int 0] [.inr (2, [.ref (s0 + 1), .int 0]), .inl (Z.2.1 0, (16000, .inl (fun _ => 0)))] := hM
  refine z_putF C (v := .ref (s0 + 0)) tyX2 hM.1 rfl bi_wsX20 tyX2_ok nmX2 0 (by decide) zw_2_16 rfl rfl hnm rfl rfl rfl (Nat.le_of_ble_eq_true rfl) hS (Or.inl rfl) dX2_init_15 (fun H locs hu hn hS => ?_)
  have hM := hM.put hu hn
  refine lv_aload_n C.1 C.2.1 dX2_init_18 rfl (lv_at hl 0 rfl) ?_
  refine b_new C hM bi_wsX70 tyX7 tyX7_ok (rfl : vwCl[4]? = some (RX7, TX7, 9)) zw_2_17 zw_2_18 zw_2_19 (gs := [.null, .null, .null, .null, .null, .null, .null, .null, .int 0]) (fun j hj => match j, hj with | 0, _ => rfl | 1, _ => rfl | 2, _ => rfl | 3, _ => rfl | 4, _ => rfl | 5, _ => rfl | 6, _ => rfl | 7, _ => rfl | 8, _ => rfl) (Nat.le_of_ble_eq_true rfl) (Nat.le_of_ble_eq_true rfl) hS dX2_init_19 (fun H hM hS => ?_)
  refine lv_dup C.1 C.2.1 dX2_init_22 rfl ?_
  refine lv_aload_n C.1 C.2.1 dX2_init_23 rfl (lv_at hl 0 rfl) ?_
  refine z_get C (v := .ref (s0 + 0)) hM.1 rfl bi_wsX20 0 (by decide) zw_2_16 rfl rfl dX2_init_24 ?_
  refine z_callI C (As := [.ref (s0 + 0)]) (rest := [.ref (s0 + 2), .ref o]) (c_X7_init l Z (hM.pt (j := 2) (k := 3) rfl rfl) (b := s0)) ⟨⟨zw_3_23, zw_2_19, zw_3_21⟩, zd_X7_init⟩ zw_3_22 rfl ⟨Nat.le_of_ble_eq_true rfl, Nat.le_of_ble_eq_true rfl⟩ ⟨rfl, rfl⟩ rfl hl.1 rfl (Nat.le_of_ble_eq_true rfl) dX2_init_27 ⟨Nat.le_of_ble_eq_true rfl, Nat.le_of_ble_eq_true rfl⟩ hS (fun _ h => h.up) (fun v H locs hp_ hS _ hkeep => ?_)
  obtain ⟨rfl, hp_⟩ := hp_
  have hM := hM.call (j := 2) (k := 3) rfl (by decide) hkeep hp_
  have hM : bW Z H o 3 s0 [.ref (s0 + 0), .null, .null, .null, .null, .null, .int 0, .int 0, .int 0, .int 0, .int 0] [.inr (2, [.ref (s0 + 1), .int 0]), .inl (Z.2.1 0, (16000, .inl (fun _ => 0))), .inr (4, [.ref s0, .ref (s0 + 3), .ref (s0 + 4), .ref (s0 + 5), .ref (s0 + 6), .ref (s0 + 7), .ref (s0 + 8), .ref (s0 + 9), .int 0]), .inl (Z.2.1 1, (500, .inl (fun _ => 0))), .inl (Z.2.1 1, (500, .inl (fun _ => 0))), .inl (Z.2.1 1, (500, .inl (fun _ => 0))), .inl (Z.2.1 1, (500, .inl (fun _ => 0))), .inl (Z.2.1 1, (500, .inl (fun _ => 0))), .inl (Z.2.1 1, (500, .inl (fun _ => 0))), .inl (Z.2.1 1, (500, .inl (fun _ => 0)))] := hM
  refine z_putF C (v := .ref (s0 + 2)) tyX2 hM.1 rfl bi_wsX20 tyX2_ok nmX2 1 (by decide) zw_2_20 rfl rfl hnm rfl rfl rfl (Nat.le_of_ble_eq_true rfl) hS (Or.inl rfl) dX2_init_30 (fun H locs hu hn hS => ?_)
  have hM := hM.put hu hn
  refine lv_aload_n C.1 C.2.1 dX2_init_33 rfl (lv_at hl 0 rfl) ?_
  refine lv_bipush (v := zI 24) C.1 C.2.1 dX2_init_34 (by decide) ?_
  refine b_newaI C hM (n := 24) (by decide) (by decide) (by decide) (Nat.le_of_ble_eq_true rfl) (Nat.le_of_ble_eq_true rfl) hS dX2_init_36 (fun H hM hS => ?_)
  refine z_putF C (v := .ref (s0 + 10)) tyX2 hM.1 rfl bi_wsX20 tyX2_ok nmX2 2 (by decide) zw_2_22 rfl rfl hnm rfl rfl rfl (Nat.le_of_ble_eq_true rfl) hS (Or.inl rfl) dX2_init_38 (fun H locs hu hn hS => ?_)
  have hM := hM.put hu hn
  refine lv_aload_n C.1 C.2.1 dX2_init_41 rfl (lv_at hl 0 rfl) ?_
  refine lv_bipush (v := zI 24) C.1 C.2.1 dX2_init_42 (by decide) ?_
  refine b_newaI C hM (n := 24) (by decide) (by decide) (by decide) (Nat.le_of_ble_eq_true rfl) (Nat.le_of_ble_eq_true rfl) hS dX2_init_44 (fun H hM hS => ?_)
  refine z_putF C (v := .ref (s0 + 11)) tyX2 hM.1 rfl bi_wsX20 tyX2_ok nmX2 3 (by decide) zw_2_23 rfl rfl hnm rfl rfl rfl (Nat.le_of_ble_eq_true rfl) hS (Or.inl rfl) dX2_init_46 (fun H locs hu hn hS => ?_)
  have hM := hM.put hu hn
  refine lv_aload_n C.1 C.2.1 dX2_init_49 rfl (lv_at hl 0 rfl) ?_
  refine lv_bipush (v := zI 24) C.1 C.2.1 dX2_init_50 (by decide) ?_
  refine b_newaR C hM (n := 24) zw_3_0 (by decide) (by decide) (by decide) (Nat.le_of_ble_eq_true rfl) (Nat.le_of_ble_eq_true rfl) hS dX2_init_52 (fun H hM hS => ?_)
  refine z_putF C (v := .ref (s0 + 12)) tyX2 hM.1 rfl bi_wsX20 tyX2_ok nmX2 4 (by decide) zw_3_1 rfl rfl hnm rfl rfl rfl (Nat.le_of_ble_eq_true rfl) hS (Or.inl rfl) dX2_init_55 (fun H locs hu hn hS => ?_)
  have hM := hM.put hu hn
  refine lv_iconst (v := zI 0) C.1 C.2.1 dX2_init_58 (by decide) ?_
  refine lv_istore_n (lv' := [(1, zN 0), (0, .ref o)]) C.1 C.2.1 dX2_init_59 rfl hl (by decide) rfl (fun ls hl => ?_)
  have hM : bW Z H o 3 s0 [.ref (s0 + 0), .ref (s0 + 2), .ref (s0 + 10), .ref (s0 + 11), .ref (s0 + 12), .null, .int 0, .int 0, .int 0, .int 0, .int 0] (imB Z s0 0) := by rw [imB_0]; exact hM
  have loop : ∀ (fu k : Nat) (H : Heap) (ls : Array Slot) (locs : List Loc) (cells slots : Nat), va_S (nA o s0) s.heap H locs → bW Z H o 3 s0 [.ref (s0 + 0), .ref (s0 + 2), .ref (s0 + 10), .ref (s0 + 11), .ref (s0 + 12), .null, .int 0, .int 0, .int 0, .int 0, .int 0] (imB Z s0 k) → k + fu = 25 → k ≤ 24 → cells = 13 + k → slots = 19583 + 10 * k → lv_has ls 2 [(0, .ref o), (1, zN k)] → W p l e { rmk 3 with cells := 38, slots := 35823 } s m args below meth c H locs cells slots Q (F0 m 60 ls []) := by
    intro fu
    induction fu with
    | zero => intro k H ls locs cells slots hS hM hf hk hc1 hc2 hl; omega
    | succ fu ih =>
      intro k H ls locs cells slots hS hM hf hk hc1 hc2 hl
      subst hc1
      subst hc2
      refine lv_iload_n C.1 C.2.1 dX2_init_60 rfl (lv_at hl 1 rfl) ?_
      refine lv_aload_n C.1 C.2.1 dX2_init_61 rfl (lv_at hl 0 rfl) ?_
      refine z_get C (v := .ref (s0 + 12)) hM.1 rfl bi_wsX20 4 (by decide) zw_3_1 rfl rfl dX2_init_62 ?_
      refine z_alen C (hM.2.2.2 12 _ rfl) (ti := 3) rfl dX2_init_65 ?_
      refine z_re (y := zI 24) rfl ?_
      refine y_icmp_ge (tgt := 88) C (a := ((k : Nat) : Int)) (b := 24) dX2_init_66 (by decide) (by omega) (fun h66 => ?_) (fun h66 => ?_)
      · obtain rfl : k = 24 := by omega
        refine lv_aload_n C.1 C.2.1 dX2_init_88 rfl (lv_at hl 0 rfl) ?_
        refine lv_sipush (v := zI 16000) C.1 C.2.1 dX2_init_89 (by decide) ?_
        refine b_newaI C hM (n := 16000) (by decide) (by decide) (by decide) (by show _ ≤ 38; omega) (by show _ ≤ 35823; omega) hS dX2_init_92 (fun H hM hS => ?_)
        have hM : bW Z H o 3 s0 [.ref (s0 + 0), .ref (s0 + 2), .ref (s0 + 10), .ref (s0 + 11), .ref (s0 + 12), .null, .int 0, .int 0, .int 0, .int 0, .int 0] (imL Z s0) := hM
        refine z_putF C (v := .ref (s0 + (imB Z s0 24).length)) tyX2 hM.1 rfl bi_wsX20 tyX2_ok nmX2 5 (by decide) zw_3_4 rfl rfl hnm rfl rfl rfl (Nat.le_of_ble_eq_true rfl) hS (Or.inl rfl) dX2_init_94 (fun H locs hu hn hS => ?_)
        have hM := hM.put hu hn
        refine lv_aload_n C.1 C.2.1 dX2_init_97 rfl (lv_at hl 0 rfl) ?_
        refine lv_iconst (v := zI 0) C.1 C.2.1 dX2_init_98 (by decide) ?_
        refine z_put C (v := zN 0) tyX2 hM.1 rfl bi_wsX20 tyX2_ok nmX2 6 (by decide) zw_3_5 rfl rfl rfl rfl (Nat.le_of_ble_eq_true rfl) hS (Or.inl rfl) dX2_init_99 (fun H locs hu hn hS => ?_)
        have hM := hM.put hu hn
        refine lv_aload_n C.1 C.2.1 dX2_init_102 rfl (lv_at hl 0 rfl) ?_
        refine lv_iconst (v := zI 0) C.1 C.2.1 dX2_init_103 (by decide) ?_
        refine z_put C (v := zN 0) tyX2 hM.1 rfl bi_wsX20 tyX2_ok nmX2 7 (by decide) zw_3_6 rfl rfl rfl rfl (Nat.le_of_ble_eq_true rfl) hS (Or.inl rfl) dX2_init_104 (fun H locs hu hn hS => ?_)
        have hM := hM.put hu hn
        refine lv_aload_n C.1 C.2.1 dX2_init_107 rfl (lv_at hl 0 rfl) ?_
        refine lv_iconst (v := zI 0) C.1 C.2.1 dX2_init_108 (by decide) ?_
        refine z_put C (v := zN 0) tyX2 hM.1 rfl bi_wsX20 tyX2_ok nmX2 8 (by decide) zw_3_7 rfl rfl rfl rfl (Nat.le_of_ble_eq_true rfl) hS (Or.inl rfl) dX2_init_109 (fun H locs hu hn hS => ?_)
        have hM := hM.put hu hn
        refine lv_aload_n C.1 C.2.1 dX2_init_112 rfl (lv_at hl 0 rfl) ?_
        refine lv_iconst (v := zI 0) C.1 C.2.1 dX2_init_113 (by decide) ?_
        refine z_put C (v := zN 0) tyX2 hM.1 rfl bi_wsX20 tyX2_ok nmX2 9 (by decide) zw_3_8 rfl rfl rfl rfl (Nat.le_of_ble_eq_true rfl) hS (Or.inl rfl) dX2_init_114 (fun H locs hu hn hS => ?_)
        have hM := hM.put hu hn
        refine lv_aload_n C.1 C.2.1 dX2_init_117 rfl (lv_at hl 0 rfl) ?_
        refine lv_iconst (v := zI 0) C.1 C.2.1 dX2_init_118 (by decide) ?_
        refine z_put C (v := zN 0) tyX2 hM.1 rfl bi_wsX20 tyX2_ok nmX2 10 (by decide) zw_3_9 rfl rfl rfl rfl (Nat.le_of_ble_eq_true rfl) hS (Or.inl rfl) dX2_init_119 (fun H locs hu hn hS => ?_)
        have hM := hM.put hu hn
        exact hret _ _ _ _ hS ⟨rfl, hM⟩ dX2_init_122
      · refine lv_aload_n C.1 C.2.1 dX2_init_69 rfl (lv_at hl 0 rfl) ?_
        refine z_get C (v := .ref (s0 + 12)) hM.1 rfl bi_wsX20 4 (by decide) zw_3_1 rfl rfl dX2_init_70 ?_
        refine lv_iload_n C.1 C.2.1 dX2_init_73 rfl (lv_at hl 1 rfl) ?_
        refine b_new C hM bi_wsX00 tyX0 tyX0_ok (rfl : vwCl[1]? = some (RX0, TX0, 10)) zw_3_0 zw_3_2 zw_3_3 (gs := [.int 0, .int 0, .int 0, .int 0, .int 0, .int 0, .int 0, .int 0, .int 0, .int 0]) (fun j hj => match j, hj with | 0, _ => rfl | 1, _ => rfl | 2, _ => rfl | 3, _ => rfl | 4, _ => rfl | 5, _ => rfl | 6, _ => rfl | 7, _ => rfl | 8, _ => rfl | 9, _ => rfl) (by show _ ≤ 38; omega) (by show _ ≤ 35823; omega) hS dX2_init_74 (fun H hM hS => ?_)
        refine lv_dup C.1 C.2.1 dX2_init_77 rfl ?_
        refine z_callIN C (As := []) (rest := [.ref (s0 + (imB Z s0 k).length), zN k, .ref (s0 + 12)]) (c_X0_init l Z (hM.pt (j := (imB Z s0 k).length) (k := (imB Z s0 k).length + 1) (by rw [List.length_append]; rfl) (by rw [List.getElem?_append_right (Nat.le_refl _), Nat.sub_self]; rfl))) ⟨⟨zw_4_11, zw_3_3⟩, by decide, by decide, rfl⟩ (by decide) zw_4_10 rfl ⟨Nat.le_of_ble_eq_true rfl, Nat.le_of_ble_eq_true rfl⟩ ⟨rfl, rfl⟩ rfl hl.1 rfl (Nat.le_of_ble_eq_true rfl) dX2_init_78 ⟨(by show _ ≤ 38; omega), (by show _ ≤ 35823; omega)⟩ hS (fun _ h => h.up) (fun v H locs hp_ hS _ hkeep => ?_)
        obtain ⟨rfl, hp_⟩ := hp_
        have hM := hM.call (j := (imB Z s0 k).length) (k := (imB Z s0 k).length + 1) (by rw [List.length_append]; rfl) (Nat.lt_succ_self _) hkeep hp_
        rw [List.append_nil, List.set_append_right _ _ (Nat.le_refl _), Nat.sub_self] at hM
        have hM : bW Z H o 3 s0 [.ref (s0 + 0), .ref (s0 + 2), .ref (s0 + 10), .ref (s0 + 11), .ref (s0 + 12), .null, .int 0, .int 0, .int 0, .int 0, .int 0] (imB Z s0 k ++ [eBd]) := hM
        refine b_aast C hM (imB_arr Z s0 k _) (jv := (imB Z s0 k).length) (by rw [List.getElem?_append_right (Nat.le_refl _), Nat.sub_self]; rfl) (fun q hq => Or.inr hq) (zI_nat _) (by omega) (by decide) hS dX2_init_81 (fun H locs hM hS => ?_)
        rw [imB_step] at hM
        refine lv_iinc (v := zI ((k + 1 : Nat) : Int)) (lv' := [(1, zN (k + 1)), (0, .ref o)]) C.1 C.2.1 dX2_init_82 hl (k := 1) rfl (zI_add _ _) (by decide) rfl (fun ls hl => ?_)
        refine lv_goto (tgt := 60) C.1 C.2.1 dX2_init_85 (by decide) ?_
        exact ih (k + 1) _ ls _ _ _ hS hM (by omega) (by omega) (by omega) (by omega) (lv_sub hl [1, 0] rfl)
  exact loop 25 0 _ ls _ _ _ hS hM (by omega) (by omega) rfl rfl (lv_sub hl [1, 0] rfl)
