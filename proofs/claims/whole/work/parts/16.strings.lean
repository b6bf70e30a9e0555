/-! String constants: length and charAt -/
theorem zd_J0_length_8abf5 : yJ0_length_8abf5.cls ≠ "java/lang/invoke/MethodHandle" ∧ yJ0_length_8abf5.cls ≠ "java/lang/invoke/VarHandle" ∧ (parseMethodDescriptor yJ0_length_8abf5.desc).map (fun d => d.parameters.length) = some 0 := by decide +kernel
theorem zd_J0_charAt_5068e : yJ0_charAt_5068e.cls ≠ "java/lang/invoke/MethodHandle" ∧ yJ0_charAt_5068e.cls ≠ "java/lang/invoke/VarHandle" ∧ (parseMethodDescriptor yJ0_charAt_5068e.desc).map (fun d => d.parameters.length) = some 1 := by decide +kernel
theorem zd_J0_coder_7d493 : yJ0_coder_7d493.cls ≠ "java/lang/invoke/MethodHandle" ∧ yJ0_coder_7d493.cls ≠ "java/lang/invoke/VarHandle" ∧ (parseMethodDescriptor yJ0_coder_7d493.desc).map (fun d => d.parameters.length) = some 0 := by decide +kernel
theorem zd_J0_isLatin1_aae02 : yJ0_isLatin1_aae02.cls ≠ "java/lang/invoke/MethodHandle" ∧ yJ0_isLatin1_aae02.cls ≠ "java/lang/invoke/VarHandle" ∧ (parseMethodDescriptor yJ0_isLatin1_aae02.desc).map (fun d => d.parameters.length) = some 0 := by decide +kernel
theorem zd_J0_checkIndex_df160 : yJ0_checkIndex_df160.cls ≠ "java/lang/invoke/MethodHandle" ∧ yJ0_checkIndex_df160.cls ≠ "java/lang/invoke/VarHandle" ∧ (parseMethodDescriptor yJ0_checkIndex_df160.desc).map (fun d => d.parameters.length) = some 2 := by decide +kernel
theorem zd_J1_charAt_3b067 : yJ1_charAt_3b067.cls ≠ "java/lang/invoke/MethodHandle" ∧ yJ1_charAt_3b067.cls ≠ "java/lang/invoke/VarHandle" ∧ (parseMethodDescriptor yJ1_charAt_3b067.desc).map (fun d => d.parameters.length) = some 2 := by decide +kernel
theorem zd_J2_getChar_3b067 : yJ2_getChar_3b067.cls ≠ "java/lang/invoke/MethodHandle" ∧ yJ2_getChar_3b067.cls ≠ "java/lang/invoke/VarHandle" ∧ (parseMethodDescriptor yJ2_getChar_3b067.desc).map (fun d => d.parameters.length) = some 2 := by decide +kernel
theorem zd_J2_length_9d52b : yJ2_length_9d52b.cls ≠ "java/lang/invoke/MethodHandle" ∧ yJ2_length_9d52b.cls ≠ "java/lang/invoke/VarHandle" ∧ (parseMethodDescriptor yJ2_length_9d52b.desc).map (fun d => d.parameters.length) = some 1 := by decide +kernel
theorem zd_J2_charAt_3b067 : yJ2_charAt_3b067.cls ≠ "java/lang/invoke/MethodHandle" ∧ yJ2_charAt_3b067.cls ≠ "java/lang/invoke/VarHandle" ∧ (parseMethodDescriptor yJ2_charAt_3b067.desc).map (fun d => d.parameters.length) = some 2 := by decide +kernel
theorem zd_J2_checkIndex_2214a : yJ2_checkIndex_2214a.cls ≠ "java/lang/invoke/MethodHandle" ∧ yJ2_checkIndex_2214a.cls ≠ "java/lang/invoke/VarHandle" ∧ (parseMethodDescriptor yJ2_checkIndex_2214a.desc).map (fun d => d.parameters.length) = some 2 := by decide +kernel
theorem zd_J3_checkIndex_8e157 : yJ3_checkIndex_8e157.cls ≠ "java/lang/invoke/MethodHandle" ∧ yJ3_checkIndex_8e157.cls ≠ "java/lang/invoke/VarHandle" ∧ (parseMethodDescriptor yJ3_checkIndex_8e157.desc).map (fun d => d.parameters.length) = some 3 := by decide +kernel
theorem n_char {v : Nat} (h : v < 65536) : narrow .char (zN v) = zN v := by show narrow .char (.int (zI v)) = .int (zI v); rw [zI_nat]; exact (pk_charN h).1
theorem tx_b : ∀ i : Fin 5, ∀ k : Fin 11, k.val < zSL.getD i.val 0 → ((zSB.getD i.val []).getD k.val 0 &&& zI 255).toUInt32.toUInt16.toUInt32.toInt32 = zI (((tx i.val).getD k.val 0 : Nat) : Int) ∧ (tx i.val).getD k.val 0 < 128 := by decide +kernel
theorem tx_len : ∀ i : Fin 5, zSL.getD i.val 0 ≤ 11 ∧ zSL.getD i.val 0 = (tx i.val).length := by decide +kernel
section ZS
variable {p : Program} {l : Launch} {e : Env} {R : Room} {s : State} {m : MethodId} {args : Array Value} {below : List Frame} {meth : Method} {c : Code} {H : Heap} {locs : List Loc} {cells slots : Nat} {Q : State → Prop}
variable {Z : zT} {cc : ByteArray} {nL : Nat} {own : String} {ret : Option FieldType} {A : Nat → Prop} {pc : Nat} {ls : Array Slot} {rest st0 : List Value}
theorem z_readK (C : zC Z A p s m args meth c cc nL own ret) {y : MethodName} {bytes : ByteArray} {maxL idx i n : Nat} {rt : Option FieldType} {rm : Room} {As : List Value} {v : Value} (hM : zP l Z y bytes maxL rt rm (.ref (Z.2.2.1 i) :: As) H v) (hi5 : i < 5) (hy : y.cls = "java/lang/String") (hw : zW y bytes maxL rt own idx n) (hi : Cond.instanceMethod y ∈ BIG) (hs : Cond.selects y.cls y y ∈ BIG) (hR : zR R rm maxL) (hm : rm.cells = 0 ∧ rm.slots = 0) (hn : As.length = n) (hsz : ls.size = nL) (hst : st0 = As.reverse ++ .ref (Z.2.2.1 i) :: rest) (hW : (rest.map fun v => v.category).sum ≤ 8) (hdg : decode cc pc = .ok (.invokevirtual idx, 3)) (hf : cells ≤ R.cells ∧ slots ≤ R.slots) (hS : va_S A s.heap H locs)
    (kk : ∀ locs' : List Loc, va_S A s.heap H locs' → W p l e R s m args below meth c H locs' cells slots Q (F0 m (pc + 3) ls (v :: rest))) : W p l e R s m args below meth c H locs cells slots Q (F0 m pc ls st0) := by
  obtain ⟨e1, e2⟩ := hm
  have hSt := C.2.2.2.2.2.2.2.2.1
  have hp : PreV s H y.cls (Z.2.2.1 i) (zPc Z (fun _ => False) (.ref (Z.2.2.1 i) :: As) H) As := ⟨zPc.blind, by rw [hy]; exact vk_recv hSt hi5 hS, (z_pre C hS (fun _ h => h.elim)).2⟩
  have hM' : Met l y (Cond.code y bytes maxL rt :: BIG) rm (zPc Z (fun _ => False) (.ref (Z.2.2.1 i) :: As) H) (zQc (fun v' H' => v' = some v ∧ H' = H) (fun _ => False)) 0 0 (fun _ => False) := hM
  have hr := va_runV (C := y.cls) (As := As) (rest := rest) (cells := cells) (slots := slots) (R := R) (locs := locs) (H := H) (below := below) (e := e) (l := l) (index := idx) (meth := meth) (g := F0 m pc ls st0) ⟨C.1, C.2.1, C.2.2.1, C.2.2.2.1, C.2.2.2.2.1⟩ hM' ⟨by have := z_cb C hw hR; rw [e1, e2] at this; exact this, C.2.2.2.2.1 _ hi, C.2.2.2.2.1 _ hs⟩ hp rfl hn hsz hst (lv_room hW) hdg hf
  exact z_fin hr hS (fun _ h => h.elim) (fun v' H' locs' hp hS' _ _ => by obtain ⟨rfl, rfl⟩ := hp; exact kk locs' hS')
end ZS

set_option maxHeartbeats 4000000 in
set_option maxRecDepth 20000 in
theorem c_J0_coder_7d493 (l : Launch) (Z : zT) {H : Heap} {i : Nat} (hi : i < 5) : zP l Z yJ0_coder_7d493 cJ0_coder_7d493 1 (some .byte) (rmk 1) [.ref (Z.2.2.1 i)] H (zN 0) := by
  refine zM.introI (own := RJ0) ⟨by decide, rfl⟩ (Nat.le_of_ble_eq_true rfl) ?_
  intro p e s m args below meth c Q ls hH C hl hret
  have hS : va_S (fun _ => False) s.heap H [] := by rw [hH]; exact va_S.rf
  have hl : lv_has ls 1 [(0, .ref (Z.2.2.1 i))] := hl
  have hSt := C.2.2.2.2.2.2.2.2.1
  refine va_gets C.1 C.2.1 C.2.2.2.2.2.2.2.2.2.2.1 hS C.2.2.2.1 (C.2.2.2.2.1 _ zw_17_13) (fun _ h => h) dJ0_coder_7d493_0 ?_
  refine lv_if_eq (tgt := 13) C.1 C.2.1 dJ0_coder_7d493_3 (by decide) (fun hz => ?_) (fun hz => ?_)
  · exact absurd hz (by decide)
  refine lv_aload_n C.1 C.2.1 dJ0_coder_7d493_6 rfl (lv_at hl 0 rfl) ?_
  refine vk_getf C.1 C.2.1 (hSt.1 i hi).2.1 hS C.2.2.2.1 (C.2.2.2.2.1 _ zw_17_14) (fun _ h => h) dJ0_coder_7d493_7 ?_
  refine lv_goto (tgt := 14) C.1 C.2.1 dJ0_coder_7d493_10 (by decide) ?_
  exact hret _ _ _ _ (zI 0) hS ⟨rfl, rfl⟩ rfl dJ0_coder_7d493_14

set_option maxHeartbeats 4000000 in
set_option maxRecDepth 20000 in
theorem c_J0_isLatin1_aae02 (l : Launch) (Z : zT) {H : Heap} {i : Nat} (hi : i < 5) : zP l Z yJ0_isLatin1_aae02 cJ0_isLatin1_aae02 1 (some .boolean) (rmk 1) [.ref (Z.2.2.1 i)] H (zN 1) := by
  refine zM.introI (own := RJ0) ⟨by decide, rfl⟩ (Nat.le_of_ble_eq_true rfl) ?_
  intro p e s m args below meth c Q ls hH C hl hret
  have hS : va_S (fun _ => False) s.heap H [] := by rw [hH]; exact va_S.rf
  have hl : lv_has ls 1 [(0, .ref (Z.2.2.1 i))] := hl
  have hSt := C.2.2.2.2.2.2.2.2.1
  refine va_gets C.1 C.2.1 C.2.2.2.2.2.2.2.2.2.2.1 hS C.2.2.2.1 (C.2.2.2.2.1 _ zw_17_13) (fun _ h => h) dJ0_isLatin1_aae02_0 ?_
  refine lv_if_eq (tgt := 17) C.1 C.2.1 dJ0_isLatin1_aae02_3 (by decide) (fun hz => ?_) (fun hz => ?_)
  · exact absurd hz (by decide)
  refine lv_aload_n C.1 C.2.1 dJ0_isLatin1_aae02_6 rfl (lv_at hl 0 rfl) ?_
  refine vk_getf C.1 C.2.1 (hSt.1 i hi).2.1 hS C.2.2.2.1 (C.2.2.2.2.1 _ zw_17_14) (fun _ h => h) dJ0_isLatin1_aae02_7 ?_
  refine lv_if_ne (tgt := 17) C.1 C.2.1 dJ0_isLatin1_aae02_10 (by decide) (fun hz => ?_) (fun hz => ?_)
  · exact absurd hz (by decide)
  refine lv_iconst (v := zI 1) C.1 C.2.1 dJ0_isLatin1_aae02_13 (by decide) ?_
  refine lv_goto (tgt := 18) C.1 C.2.1 dJ0_isLatin1_aae02_14 (by decide) ?_
  exact hret _ _ _ _ (zI 1) hS ⟨rfl, rfl⟩ rfl dJ0_isLatin1_aae02_18

set_option maxHeartbeats 4000000 in
set_option maxRecDepth 20000 in
theorem c_J0_length_8abf5 (l : Launch) (Z : zT) {H : Heap} {i : Nat} (hi : i < 5) : zP l Z yJ0_length_8abf5 cJ0_length_8abf5 1 (some .int) (rmk 2) [.ref (Z.2.2.1 i)] H (zN (zSL.getD i 0)) := by
  refine zM.introI (own := RJ0) ⟨by decide, rfl⟩ (Nat.le_of_ble_eq_true rfl) ?_
  intro p e s m args below meth c Q ls hH C hl hret
  have hS : va_S (fun _ => False) s.heap H [] := by rw [hH]; exact va_S.rf
  have hl : lv_has ls 1 [(0, .ref (Z.2.2.1 i))] := hl
  have hSt := C.2.2.2.2.2.2.2.2.1
  refine lv_aload_n C.1 C.2.1 dJ0_length_8abf5_0 rfl (lv_at hl 0 rfl) ?_
  refine vk_getf C.1 C.2.1 (hSt.1 i hi).2.2.1 hS C.2.2.2.1 (C.2.2.2.2.1 _ zw_17_8) (fun _ h => h) dJ0_length_8abf5_1 ?_
  refine va_tlen C.1 C.2.1 (v := zI ((zSL.getD i 0 : Nat) : Int)) (hSt.1 i hi).2.2.2 hS (zI_nat _).symm dJ0_length_8abf5_4 ?_
  refine lv_aload_n C.1 C.2.1 dJ0_length_8abf5_5 rfl (lv_at hl 0 rfl) ?_
  refine z_readK C (As := []) (rest := [zN (zSL.getD i 0)]) (c_J0_coder_7d493 l Z hi) hi rfl ⟨⟨zw_17_12, zw_17_6, zw_17_9⟩, zd_J0_coder_7d493⟩ zw_17_10 zw_17_11 ⟨Nat.le_of_ble_eq_true rfl, Nat.le_of_ble_eq_true rfl⟩ ⟨rfl, rfl⟩ rfl hl.1 rfl (Nat.le_of_ble_eq_true rfl) dJ0_length_8abf5_6 ⟨Nat.zero_le _, Nat.zero_le _⟩ hS (fun locs hS => ?_)
  refine lv_ishr C.1 C.2.1 dJ0_length_8abf5_9 ?_
  refine z_re (y := zI ((zSL.getD i 0 : Nat) : Int)) (by have h11 : zSL.getD i 0 ≤ 11 := (tx_len ⟨i, hi⟩).1; rw [zI_nat]; exact sc_shr0 (show zSL.getD i 0 < 2 ^ 31 by omega)) ?_
  exact hret _ _ _ _ (zI ((zSL.getD i 0 : Nat) : Int)) hS ⟨rfl, rfl⟩ rfl dJ0_length_8abf5_10

set_option maxHeartbeats 4000000 in
set_option maxRecDepth 20000 in
theorem c_J3_checkIndex_8e157 (l : Launch) (Z : zT) {H : Heap} {k n : Nat} {v : Value} (hv : v = .null ∨ ∃ t, v = .ref t) (hk : k < n) (hn : n < 2147483648) : zP l Z yJ3_checkIndex_8e157 cJ3_checkIndex_8e157 3 (some .int) (rmk 1) [zN k, zN n, v] H (zN k) := by
  refine zM.introI (own := RJ3) ⟨by decide, rfl⟩ (by rcases hv with rfl | ⟨t, rfl⟩ <;> exact Nat.le_of_ble_eq_true rfl) ?_
  intro p e s m args below meth c Q ls hH C hl hret
  have hS : va_S (fun _ => False) s.heap H [] := by rw [hH]; exact va_S.rf
  have hl : lv_has ls 3 [(0, zN k), (1, zN n), (2, v)] := hl
  refine lv_iload_n C.1 C.2.1 dJ3_checkIndex_8e157_0 rfl (lv_at hl 0 rfl) ?_
  refine y_if_lt (tgt := 9) C (a := ((k : Nat) : Int)) dJ3_checkIndex_8e157_1 (by decide) (by omega) (fun h1 => ?_) (fun h1 => ?_)
  · exact absurd h1 (by omega)
  · refine lv_iload_n C.1 C.2.1 dJ3_checkIndex_8e157_4 rfl (lv_at hl 0 rfl) ?_
    refine lv_iload_n C.1 C.2.1 dJ3_checkIndex_8e157_5 rfl (lv_at hl 1 rfl) ?_
    refine y_icmp_lt (tgt := 16) C (a := ((k : Nat) : Int)) (b := ((n : Nat) : Int)) dJ3_checkIndex_8e157_6 (by decide) (by omega) (fun h6 => ?_) (fun h6 => ?_)
    · refine lv_iload_n C.1 C.2.1 dJ3_checkIndex_8e157_16 rfl (lv_at hl 0 rfl) ?_
      exact hret _ _ _ _ (zI ((k : Nat) : Int)) hS ⟨rfl, rfl⟩ rfl dJ3_checkIndex_8e157_17
    · exact absurd h6 (by omega)

set_option maxHeartbeats 4000000 in
theorem c_J0_checkIndex_df160 (l : Launch) (Z : zT) {H : Heap} {k n : Nat} (hk : k < n) (hn : n < 2147483648) : zM l Z yJ0_checkIndex_df160 cJ0_checkIndex_df160 2 none (rmk 2) [zN k, zN n] H (fun _ => False) 0 0 (fun v H' => v = none ∧ H' = H) := by
  refine zM.introV (own := RJ0) ⟨by decide, rfl⟩ (Nat.le_of_ble_eq_true rfl) ?_
  intro p e s m args below meth c Q ls hH C hnm hl hret
  have hS : va_S (fun _ => False) s.heap H [] := by rw [hH]; exact va_S.rf
  have hl : lv_has ls 2 [(0, zN k), (1, zN n)] := hl
  refine lv_iload_n C.1 C.2.1 dJ0_checkIndex_df160_0 rfl (lv_at hl 0 rfl) ?_
  refine lv_iload_n C.1 C.2.1 dJ0_checkIndex_df160_1 rfl (lv_at hl 1 rfl) ?_
  obtain ⟨v, hv, hz⟩ : ∃ v, (v = Value.null ∨ ∃ t, v = .ref t) ∧ va_Z "jdk/internal/util/Preconditions" "SIOOBE_FORMATTER" "Ljava/util/function/BiFunction;" v (fun _ => False) s s.heap := by
    rcases C.2.2.2.2.2.2.2.2.2.2.2.1.1 with hz | ⟨t, hz⟩
    exact ⟨_, Or.inl rfl, hz⟩
    exact ⟨_, Or.inr ⟨t, rfl⟩, hz⟩
  refine va_gets C.1 C.2.1 hz hS C.2.2.2.1 (C.2.2.2.2.1 _ zw_18_6) (fun _ h => h) dJ0_checkIndex_df160_2 ?_
  refine z_readS C (As := [zN k, zN n, v]) (rest := []) (c_J3_checkIndex_8e157 l Z hv hk hn) ⟨⟨zw_18_10, zw_18_9, zw_18_7⟩, zd_J3_checkIndex_8e157⟩ zw_18_8 ⟨Nat.le_of_ble_eq_true rfl, Nat.le_of_ble_eq_true rfl⟩ ⟨rfl, rfl⟩ rfl hl.1 rfl (Nat.le_of_ble_eq_true rfl) dJ0_checkIndex_df160_5 ⟨Nat.zero_le _, Nat.zero_le _⟩ hS (fun locs hS => ?_)
  refine lv_pop C.1 C.2.1 dJ0_checkIndex_df160_8 rfl ?_
  exact hret _ _ _ _ hS ⟨rfl, rfl⟩ dJ0_checkIndex_df160_9
set_option maxHeartbeats 4000000 in
set_option maxRecDepth 20000 in
theorem c_J1_charAt_3b067 (l : Launch) (Z : zT) {H : Heap} {i : Nat} (hi : i < 5) {k : Nat} (hk : k < zSL.getD i 0) : zP l Z yJ1_charAt_3b067 cJ1_charAt_3b067 2 (some .char) (rmk 3) [.ref (Z.2.2.2 i), zN k] H (zN ((tx i).getD k 0)) := by
  refine zM.introI (own := RJ1) ⟨by decide, rfl⟩ (Nat.le_of_ble_eq_true rfl) ?_
  intro p e s m args below meth c Q ls hH C hl hret
  have hS : va_S (fun _ => False) s.heap H [] := by rw [hH]; exact va_S.rf
  have hl : lv_has ls 2 [(0, .ref (Z.2.2.2 i)), (1, zN k)] := hl
  have hSt := C.2.2.2.2.2.2.2.2.1
  have h11 : zSL.getD i 0 ≤ 11 := (tx_len ⟨i, hi⟩).1
  have hb := tx_b ⟨i, hi⟩ ⟨k, by omega⟩ hk
  have hb2 : (tx i).getD k 0 < 128 := hb.2
  refine lv_iload_n C.1 C.2.1 dJ1_charAt_3b067_0 rfl (lv_at hl 1 rfl) ?_
  refine lv_aload_n C.1 C.2.1 dJ1_charAt_3b067_1 rfl (lv_at hl 0 rfl) ?_
  refine va_tlen C.1 C.2.1 (v := zI ((zSL.getD i 0 : Nat) : Int)) (hSt.1 i hi).2.2.2 hS (zI_nat _).symm dJ1_charAt_3b067_2 ?_
  refine z_callS C (As := [zN k, zN (zSL.getD i 0)]) (rest := []) (c_J0_checkIndex_df160 l Z hk (by omega)) ⟨⟨zw_18_5, zw_17_6, zw_18_3⟩, zd_J0_checkIndex_df160⟩ zw_18_4 ⟨Nat.le_of_ble_eq_true rfl, Nat.le_of_ble_eq_true rfl⟩ ⟨rfl, rfl⟩ rfl hl.1 rfl (Nat.le_of_ble_eq_true rfl) dJ1_charAt_3b067_3 ⟨Nat.zero_le _, Nat.zero_le _⟩ hS (fun _ h => h.elim) (fun v H1 locs hp hS _ _ => ?_)
  obtain ⟨rfl, hx⟩ := hp
  rw [hx] at hS ⊢
  refine lv_aload_n C.1 C.2.1 dJ1_charAt_3b067_6 rfl (lv_at hl 0 rfl) ?_
  refine lv_iload_n C.1 C.2.1 dJ1_charAt_3b067_7 rfl (lv_at hl 1 rfl) ?_
  refine va_tb C.1 C.2.1 (hSt.1 i hi).2.2.2 hS (i := zI ((k : Nat) : Int)) (by rw [zI_nat]; exact vp_in_nI hk (by omega)) (v := .int ((zSB.getD i []).getD k 0)) (by show Value.int _ = _; rw [zI_nat, nI_clamp (by omega)]) dJ1_charAt_3b067_8 ?_
  refine lv_sipush (v := zI 255) C.1 C.2.1 dJ1_charAt_3b067_9 (by decide) ?_
  refine lv_iand C.1 C.2.1 dJ1_charAt_3b067_12 ?_
  refine lv_i2c (v := zI (((tx i).getD k 0 : Nat) : Int)) C.1 C.2.1 dJ1_charAt_3b067_13 hb.1 ?_
  exact hret _ _ _ _ (zI (((tx i).getD k 0 : Nat) : Int)) hS ⟨rfl, rfl⟩ (n_char (by omega)) dJ1_charAt_3b067_14

set_option maxHeartbeats 4000000 in
set_option maxRecDepth 20000 in
theorem c_J0_charAt_5068e (l : Launch) (Z : zT) {H : Heap} {i : Nat} (hi : i < 5) {k : Nat} (hk : k < zSL.getD i 0) : zP l Z yJ0_charAt_5068e cJ0_charAt_5068e 2 (some .char) (rmk 4) [.ref (Z.2.2.1 i), zN k] H (zN ((tx i).getD k 0)) := by
  refine zM.introI (own := RJ0) ⟨by decide, rfl⟩ (Nat.le_of_ble_eq_true rfl) ?_
  intro p e s m args below meth c Q ls hH C hl hret
  have hS : va_S (fun _ => False) s.heap H [] := by rw [hH]; exact va_S.rf
  have hl : lv_has ls 2 [(0, .ref (Z.2.2.1 i)), (1, zN k)] := hl
  have hSt := C.2.2.2.2.2.2.2.2.1
  have h11 : zSL.getD i 0 ≤ 11 := (tx_len ⟨i, hi⟩).1
  have hb := tx_b ⟨i, hi⟩ ⟨k, by omega⟩ hk
  have hb2 : (tx i).getD k 0 < 128 := hb.2
  refine lv_aload_n C.1 C.2.1 dJ0_charAt_5068e_0 rfl (lv_at hl 0 rfl) ?_
  refine z_readK C (As := []) (rest := []) (c_J0_isLatin1_aae02 l Z hi) hi rfl ⟨⟨zw_17_22, zw_17_6, zw_17_19⟩, zd_J0_isLatin1_aae02⟩ zw_17_20 zw_17_21 ⟨Nat.le_of_ble_eq_true rfl, Nat.le_of_ble_eq_true rfl⟩ ⟨rfl, rfl⟩ rfl hl.1 rfl (Nat.le_of_ble_eq_true rfl) dJ0_charAt_5068e_1 ⟨Nat.zero_le _, Nat.zero_le _⟩ hS (fun locs hS => ?_)
  refine lv_if_eq (tgt := 16) C.1 C.2.1 dJ0_charAt_5068e_4 (by decide) (fun hz => ?_) (fun hz => ?_)
  · exact absurd hz (by decide)
  refine lv_aload_n C.1 C.2.1 dJ0_charAt_5068e_7 rfl (lv_at hl 0 rfl) ?_
  refine vk_getf C.1 C.2.1 (hSt.1 i hi).2.2.1 hS C.2.2.2.1 (C.2.2.2.2.1 _ zw_17_8) (fun _ h => h) dJ0_charAt_5068e_8 ?_
  refine lv_iload_n C.1 C.2.1 dJ0_charAt_5068e_11 rfl (lv_at hl 1 rfl) ?_
  refine z_readS C (As := [.ref (Z.2.2.2 i), zN k]) (rest := []) (c_J1_charAt_3b067 l Z hi hk) ⟨⟨zw_18_2, zw_18_1, zw_17_23⟩, zd_J1_charAt_3b067⟩ zw_18_0 ⟨Nat.le_of_ble_eq_true rfl, Nat.le_of_ble_eq_true rfl⟩ ⟨rfl, rfl⟩ rfl hl.1 rfl (Nat.le_of_ble_eq_true rfl) dJ0_charAt_5068e_12 ⟨Nat.zero_le _, Nat.zero_le _⟩ hS (fun locs hS => ?_)
  exact hret _ _ _ _ (zI (((tx i).getD k 0 : Nat) : Int)) hS ⟨rfl, rfl⟩ (n_char (by omega)) dJ0_charAt_5068e_15
