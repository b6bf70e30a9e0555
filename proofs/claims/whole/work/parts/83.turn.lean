/-! the law: one turn of its loop, case by case -/
section LWT
variable {p : Program} {l : Launch} {e : Env} {s : State} {m : MethodId} {args : Array Value} {below : List Frame} {meth : Method} {c : Code} {H : Heap} {locs : List Loc} {cells slots : Nat} {Q : State → Prop}
variable {Z : zT} {rt : Option FieldType} {ls : Array Slot} {rest : List Value} {A : Nat → Prop} {b L i o oM : Nat} {xs : Nat → Int32}
/-- number j of turn i's ints -/
def sA (xs : Nat → Int32) (i j : Nat) : Int := (xs (zI ((i + j : Nat) : Int)).toNatClampNeg).toInt
theorem sA_rg (xs : Nat → Int32) (i j : Nat) : -2147483648 ≤ sA xs i j ∧ sA xs i j ≤ 2147483647 := by have := zI_rg (xs (zI ((i + j : Nat) : Int)).toNatClampNeg); unfold sA; omega
theorem zI_in {n N : Nat} (h : n < N) (hN : N < 2 ^ 31) : vp_in (zI (n : Int)) N := by rw [zI_nat]; exact vp_in_nI h hN
/-- aload_0, iload_3, iconst j, iadd, iaload -/
theorem k_arg {R : Room} {o : Value} {oM : Value} (C : zC Z A p s m args meth c cL_law 4 RL rt) (hX : va_X b L xs s s.heap) (hbl : b < s.heap.size) (hbA : ¬ A b) (hS : va_S A s.heap H locs) (hl : lv_has ls 4 [(0, .ref b), (1, o), (2, oM), (3, zN i)]) (hL : L ≤ 3072) (j : Nat) (hij : i + j < L) {pc : Nat} {n : Int} (hn : n = (j : Int))
    (d0 : decode cL_law pc = .ok (.aload_n 0, 1)) (d1 : decode cL_law (pc + 1) = .ok (.iload_n 3, 1)) (d2 : decode cL_law (pc + 2) = .ok (.iconst n, 1)) (d3 : decode cL_law (pc + 3) = .ok (.iadd, 1)) (d4 : decode cL_law (pc + 4) = .ok (.iaload, 1))
    (kk : W p l e R s m args below meth c H locs cells slots Q (F0 m (pc + 5) ls (zV (sA xs i j) :: rest))) : W p l e R s m args below meth c H locs cells slots Q (F0 m pc ls rest) := by
  refine lv_aload_n C.1 C.2.1 d0 rfl (lv_at hl 0 rfl) ?_
  refine lv_iload_n C.1 C.2.1 d1 rfl (lv_at hl 3 rfl) ?_
  refine lv_iconst (v := zI (j : Int)) C.1 C.2.1 d2 (by rw [hn]; rfl) ?_
  refine y_iaddN C (a := i) (b := j) d3 ?_
  refine va_sld C.1 C.2.1 hX hbl hbA hS (zI_in hij (by omega)) d4 ?_
  exact z_re (zI_of _) kk
/-- a call of a method with a table of its own -/
theorem z_callVH {R : Room} {own : String} {cc : ByteArray} {nL : Nat} {st0 : List Value} {pc : Nat} (C : zC Z A p s m args meth c cc nL own rt) {y : MethodName} {bytes : ByteArray} {maxL idx b ci mc ms n : Nat} {rt2 : Option FieldType} {hh : List (Nat × Nat × Nat × Nat)} {rm : Room} {As : List Value} {A1 : Nat → Prop} {post : Option Value → Heap → Prop} {fs : List Value} {T : u_T} {N : Nat} (hM : zMH l Z y bytes maxL rt2 hh rm (.ref b :: As) H A1 mc ms post) (hb : zAt Z H b (.inr (ci, fs))) (hc : vwCl[ci]? = some (y.cls, T, N)) (hw0 : Cond.codeWith y bytes maxL rt2 hh ∈ BIG) (hw1 : Cond.initialized y.cls ∈ BIG) (hw2 : Cond.methodLink own idx y ∈ BIG) (hd : y.cls ≠ "java/lang/invoke/MethodHandle" ∧ y.cls ≠ "java/lang/invoke/VarHandle" ∧ (parseMethodDescriptor y.desc).map (fun d => d.parameters.length) = some n) (hi : Cond.instanceMethod y ∈ BIG) (hs : Cond.selects y.cls y y ∈ BIG) (hR : zR R rm maxL) (hm : rm.cells = mc ∧ rm.slots = ms) (hn : As.length = n) (hsz : ls.size = nL) (hst : st0 = As.reverse ++ .ref b :: rest) (hW : (rest.map fun v => v.category).sum ≤ 8) (hdg : decode cc pc = .ok (.invokevirtual idx, 3)) (hf : cells + mc ≤ R.cells ∧ slots + ms ≤ R.slots) (hS : va_S A s.heap H locs) (hA : ∀ q, A1 q → A q)
    (kk : ∀ (v : Option Value) (H' : Heap) (locs' : List Loc), post v H' → va_S A s.heap H' locs' → H.size ≤ H'.size → (∀ q : Nat, q < H.size → ¬ A1 q → H'[q]? = H[q]?) → W p l e R s m args below meth c H' locs' (cells + mc) (slots + ms) Q (F0 m (pc + 3) ls (v.toList ++ rest))) : W p l e R s m args below meth c H locs cells slots Q (F0 m pc ls st0) := by
  have hG : GoodIn BIG (wsV own idx y.cls y (Cond.codeWith y bytes maxL rt2 hh :: BIG)) := fun w hw => by
    have K : w ∈ BIG := by
      unfold wsV at hw
      rcases List.mem_append.mp hw with z | z
      · rcases List.mem_cons.mp z with rfl | z
        · exact hw2
        rcases List.mem_cons.mp z with rfl | z
        · exact hi
        rcases List.mem_cons.mp z with rfl | z
        · exact hs
        rcases List.mem_cons.mp z with rfl | z
        · exact hw1
        · exact absurd z List.not_mem_nil
      · rcases List.mem_cons.mp z with rfl | z
        · exact hw0
        · exact z
    exact ⟨K, good_of_word (big_good _ K)⟩
  exact z_fin (vx_runVW (C := y.cls) (As := As) (rest := rest) ⟨C.1, C.2.1, C.2.2.1, C.2.2.2.1, C.2.2.2.2.1⟩ hM (vx_cwVW n C.2.2.2.2.1 hG rfl hm.1 hm.2 ⟨rfl, hd⟩ hR) (z_preV C hS hA hb hc) rfl hn hsz hst (lv_room hW) hdg hf) hS hA kk
theorem isM.lt {H : Heap} {o : Nat} {ad : Nat → Nat} {σ : mS} (h : isM Z H o ad σ) {q : Nat} (hq : mA o ad q) : q < H.size := by
  obtain ⟨h1, h2, h3, h4, h5, -⟩ := h
  rcases hq with rfl | ⟨k, hk, rfl⟩
  · exact h1.lt
  · rcases List.mem_cons.mp hk with rfl | hk
    · exact h3.lt
    rcases List.mem_cons.mp hk with rfl | hk
    · exact h5.lt
    rcases List.mem_cons.mp hk with rfl | hk
    · exact h4.lt
    · exact (h2 k hk).lt
/-- what holds between two turns -/
def lwI (Z : zT) (A : Nat → Prop) (o oM : Nat) (H : Heap) : Prop := ∃ (ad adB adM : Nat → Nat) (τ τB σ : mS) (F : Nat → Nat) (t f : Nat) (kn : Int),
  (zAt Z H o (.inr (7, rF (ad 15) (ad 0) (adB 0) kn (f : Int))) ∧ apt o ad adB ∧ isC Z H ad τ [] ∧ isC Z H adB (vv τ τB) [] ∧ isM Z H oM adM σ) ∧
  (∀ q, mA oM adM q → q ≠ o ∧ (∀ i, i < 40 → q ≠ ad i) ∧ ∀ i, i < 40 → q ≠ adB i) ∧
  (A o ∧ (∀ i, i < 40 → A (ad i)) ∧ (∀ i, i < 40 → A (adB i)) ∧ ∀ q, mA oM adM q → A q) ∧
  (isF F ∧ t ≤ 16000 ∧ f ≤ 65536 ∧ τ.1 0 = zI (t : Int) ∧ σ.1 1 = zI (t : Int) ∧ σ.1 2 = zI (f : Int)) ∧ (∀ j, j < t → τ.2.1 2 j = zI (sb (F j)) ∧ σ.2.1 0 j = zI (sb (F j))) ∧ σ.1 6 = τ.1 9 ∧ lwL τB σ kn
/-- a byte out of a signed one -/
def ub (x : Int32) : Nat := (x.toInt % 256).toNat
theorem ub_lt (x : Int32) : ub x < 256 := by unfold ub; omega
theorem i8_sb (y : Int8) : y.toInt32 = zI (sb (ub y.toInt32)) := by
  have h1 := Int8.le_toInt y
  have h2 := Int8.toInt_lt y
  have e : y.toInt32.toInt = y.toInt := Int8.toInt_toInt32 y
  rw [zI_of y.toInt32]
  refine zI_c ?_
  rw [← zI_of, e]
  unfold sb ub
  rw [e]
  split <;> omega
theorem fb_sb (x1 x2 x3 x4 x5 : Int32) (k : Nat) : fb x1 x2 x3 x4 x5 k = zI (sb (ub (fb x1 x2 x3 x4 x5 k))) := by
  unfold fb
  repeat' split
  all_goals exact i8_sb _
def fdF (F : Nat → Nat) (t : Nat) (g : Nat → Int32) : Nat → Nat := fun j => if j < t then F j else ub (g (j - t))
theorem fdF_ok {F : Nat → Nat} {t : Nat} {g : Nat → Int32} (h : isF F) : isF (fdF F t g) := by
  intro j
  unfold fdF
  split
  · exact h j
  · exact ub_lt _
end LWT

section LWR
variable {p : Program} {l : Launch} {e : Env} {s : State} {m : MethodId} {args : Array Value} {below : List Frame} {meth : Method} {c : Code} {H : Heap} {locs : List Loc} {cells slots : Nat} {Q : State → Prop}
variable {Z : zT} {rt : Option FieldType} {ls : Array Slot} {rest : List Value} {A : Nat → Prop} {b L i o oM : Nat} {xs : Nat → Int32}

set_option maxHeartbeats 4000000 in
set_option maxRecDepth 20000 in
theorem k_t_size (C : zC Z A p s m args meth c cL_law 4 RL rt) (hX : va_X b L xs s s.heap) (hbl : b < s.heap.size) (hbA : ¬ A b) (hAn : ∀ q, s.heap.size ≤ q → A q) (hl : lv_has ls 4 [(0, .ref b), (1, .ref o), (2, .ref oM), (3, zN i)]) (hL : L ≤ 3072) (hij : i + 5 < L) (hf : cells + 25 ≤ room_1.cells ∧ slots + 100 ≤ room_1.slots) (hI : lwI Z A o oM H) (hS : va_S A s.heap H locs)
    (kk : ∀ (H' : Heap) (locs' : List Loc), lwI Z A o oM H' → va_S A s.heap H' locs' → W p l e room_1 s m args below meth c H' locs' cells slots Q (F0 m 388 ls [])) : W p l e room_1 s m args below meth c H locs cells slots Q (F0 m 200 ls []) := by
  obtain ⟨ad, adB, adM, τ, τB, σ, F, t, f, kn, ⟨hR, ha, hC1, hC2, hM⟩, hap, hge, ⟨hF, ht, hfd, e0, e1, e2⟩, eb, e6, hLt⟩ := id hI
  have hf0 : cells ≤ room_1.cells ∧ slots ≤ room_1.slots := ⟨Nat.le_trans (Nat.le_add_right _ _) hf.1, Nat.le_trans (Nat.le_add_right _ _) hf.2⟩
  obtain ⟨r, w1, w2⟩ := b_size l Z hC2 hR hM hLt (sA xs i 1) (sA_rg xs i 1)
  refine lv_aload_n C.1 C.2.1 dL_law_200 rfl (lv_at hl 1 rfl) ?_
  refine k_arg C hX hbl hbA hS hl hL 1 (by omega) (n := 1) rfl dL_law_201 dL_law_202 dL_law_203 dL_law_204 dL_law_205 ?_
  refine z_readV C (As := [zV (sA xs i 1)]) (rest := []) w1 hR rfl ⟨⟨zw_36_12, zw_1_2, zw_36_9⟩, zd_X11_size⟩ zw_36_10 zw_36_11 ⟨Nat.le_of_ble_eq_true rfl, Nat.le_of_ble_eq_true rfl⟩ ⟨rfl, rfl⟩ rfl hl.1 rfl (Nat.le_of_ble_eq_true rfl) dL_law_206 hf0 hS (fun locs hS => ?_)
  refine lv_aload_n C.1 C.2.1 dL_law_209 rfl (lv_at hl 2 rfl) ?_
  refine k_arg C hX hbl hbA hS hl hL 1 (by omega) (n := 1) rfl dL_law_210 dL_law_211 dL_law_212 dL_law_213 dL_law_214 ?_
  refine z_readV C (As := [zV (sA xs i 1)]) (rest := [zV r]) w2 hM.1 rfl ⟨⟨zw_36_19, zw_1_5, zw_36_16⟩, zd_X12_size⟩ zw_36_17 zw_36_18 ⟨Nat.le_of_ble_eq_true rfl, Nat.le_of_ble_eq_true rfl⟩ ⟨rfl, rfl⟩ rfl hl.1 rfl (Nat.le_of_ble_eq_true rfl) dL_law_215 hf0 hS (fun locs hS => ?_)
  exact lv_icmp_eq (tgt := 388) C.1 C.2.1 dL_law_218 (by decide) (fun _ => kk _ _ hI hS) (fun z => absurd rfl z)

set_option maxHeartbeats 4000000 in
set_option maxRecDepth 20000 in
theorem k_t_field (C : zC Z A p s m args meth c cL_law 4 RL rt) (hX : va_X b L xs s s.heap) (hbl : b < s.heap.size) (hbA : ¬ A b) (hAn : ∀ q, s.heap.size ≤ q → A q) (hl : lv_has ls 4 [(0, .ref b), (1, .ref o), (2, .ref oM), (3, zN i)]) (hL : L ≤ 3072) (hij : i + 5 < L) (hf : cells + 25 ≤ room_1.cells ∧ slots + 100 ≤ room_1.slots) (hI : lwI Z A o oM H) (hS : va_S A s.heap H locs)
    (kk : ∀ (H' : Heap) (locs' : List Loc), lwI Z A o oM H' → va_S A s.heap H' locs' → W p l e room_1 s m args below meth c H' locs' cells slots Q (F0 m 388 ls [])) : W p l e room_1 s m args below meth c H locs cells slots Q (F0 m 223 ls []) := by
  obtain ⟨ad, adB, adM, τ, τB, σ, F, t, f, kn, ⟨hR, ha, hC1, hC2, hM⟩, hap, hge, ⟨hF, ht, hfd, e0, e1, e2⟩, eb, e6, hLt⟩ := id hI
  have hf0 : cells ≤ room_1.cells ∧ slots ≤ room_1.slots := ⟨Nat.le_trans (Nat.le_add_right _ _) hf.1, Nat.le_trans (Nat.le_add_right _ _) hf.2⟩
  obtain ⟨r, w1, w2⟩ := b_field l Z hC2 hR hM hLt (sA xs i 1) (sA_rg xs i 1)
  refine lv_aload_n C.1 C.2.1 dL_law_223 rfl (lv_at hl 1 rfl) ?_
  refine k_arg C hX hbl hbA hS hl hL 1 (by omega) (n := 1) rfl dL_law_224 dL_law_225 dL_law_226 dL_law_227 dL_law_228 ?_
  refine z_readV C (As := [zV (sA xs i 1)]) (rest := []) w1 hR rfl ⟨⟨zw_36_23, zw_1_2, zw_36_20⟩, zd_X11_field⟩ zw_36_21 zw_36_22 ⟨Nat.le_of_ble_eq_true rfl, Nat.le_of_ble_eq_true rfl⟩ ⟨rfl, rfl⟩ rfl hl.1 rfl (Nat.le_of_ble_eq_true rfl) dL_law_229 hf0 hS (fun locs hS => ?_)
  refine lv_aload_n C.1 C.2.1 dL_law_232 rfl (lv_at hl 2 rfl) ?_
  refine k_arg C hX hbl hbA hS hl hL 1 (by omega) (n := 1) rfl dL_law_233 dL_law_234 dL_law_235 dL_law_236 dL_law_237 ?_
  refine z_readV C (As := [zV (sA xs i 1)]) (rest := [zV r]) w2 hM.1 rfl ⟨⟨zw_37_7, zw_1_5, zw_37_4⟩, zd_X12_field⟩ zw_37_5 zw_37_6 ⟨Nat.le_of_ble_eq_true rfl, Nat.le_of_ble_eq_true rfl⟩ ⟨rfl, rfl⟩ rfl hl.1 rfl (Nat.le_of_ble_eq_true rfl) dL_law_238 hf0 hS (fun locs hS => ?_)
  exact lv_icmp_eq (tgt := 388) C.1 C.2.1 dL_law_241 (by decide) (fun _ => kk _ _ hI hS) (fun z => absurd rfl z)

set_option maxHeartbeats 4000000 in
set_option maxRecDepth 20000 in
theorem k_t_method (C : zC Z A p s m args meth c cL_law 4 RL rt) (hX : va_X b L xs s s.heap) (hbl : b < s.heap.size) (hbA : ¬ A b) (hAn : ∀ q, s.heap.size ≤ q → A q) (hl : lv_has ls 4 [(0, .ref b), (1, .ref o), (2, .ref oM), (3, zN i)]) (hL : L ≤ 3072) (hij : i + 5 < L) (hf : cells + 25 ≤ room_1.cells ∧ slots + 100 ≤ room_1.slots) (hI : lwI Z A o oM H) (hS : va_S A s.heap H locs)
    (kk : ∀ (H' : Heap) (locs' : List Loc), lwI Z A o oM H' → va_S A s.heap H' locs' → W p l e room_1 s m args below meth c H' locs' cells slots Q (F0 m 388 ls [])) : W p l e room_1 s m args below meth c H locs cells slots Q (F0 m 246 ls []) := by
  obtain ⟨ad, adB, adM, τ, τB, σ, F, t, f, kn, ⟨hR, ha, hC1, hC2, hM⟩, hap, hge, ⟨hF, ht, hfd, e0, e1, e2⟩, eb, e6, hLt⟩ := id hI
  have hf0 : cells ≤ room_1.cells ∧ slots ≤ room_1.slots := ⟨Nat.le_trans (Nat.le_add_right _ _) hf.1, Nat.le_trans (Nat.le_add_right _ _) hf.2⟩
  obtain ⟨r, w1, w2⟩ := b_method l Z hC2 hR hM hLt (sA xs i 1) (sA xs i 2) (sA_rg xs i 1) (sA_rg xs i 2)
  refine lv_aload_n C.1 C.2.1 dL_law_246 rfl (lv_at hl 1 rfl) ?_
  refine k_arg C hX hbl hbA hS hl hL 1 (by omega) (n := 1) rfl dL_law_247 dL_law_248 dL_law_249 dL_law_250 dL_law_251 ?_
  refine k_arg C hX hbl hbA hS hl hL 2 (by omega) (n := 2) rfl dL_law_252 dL_law_253 dL_law_254 dL_law_255 dL_law_256 ?_
  refine z_readV C (As := [zV (sA xs i 1), zV (sA xs i 2)]) (rest := []) w1 hR rfl ⟨⟨zw_37_11, zw_1_2, zw_37_8⟩, zd_X11_method⟩ zw_37_9 zw_37_10 ⟨Nat.le_of_ble_eq_true rfl, Nat.le_of_ble_eq_true rfl⟩ ⟨rfl, rfl⟩ rfl hl.1 rfl (Nat.le_of_ble_eq_true rfl) dL_law_257 hf0 hS (fun locs hS => ?_)
  refine lv_aload_n C.1 C.2.1 dL_law_260 rfl (lv_at hl 2 rfl) ?_
  refine k_arg C hX hbl hbA hS hl hL 1 (by omega) (n := 1) rfl dL_law_261 dL_law_262 dL_law_263 dL_law_264 dL_law_265 ?_
  refine k_arg C hX hbl hbA hS hl hL 2 (by omega) (n := 2) rfl dL_law_266 dL_law_267 dL_law_268 dL_law_269 dL_law_270 ?_
  refine z_readV C (As := [zV (sA xs i 1), zV (sA xs i 2)]) (rest := [zV r]) w2 hM.1 rfl ⟨⟨zw_37_23, zw_1_5, zw_37_20⟩, zd_X12_method⟩ zw_37_21 zw_37_22 ⟨Nat.le_of_ble_eq_true rfl, Nat.le_of_ble_eq_true rfl⟩ ⟨rfl, rfl⟩ rfl hl.1 rfl (Nat.le_of_ble_eq_true rfl) dL_law_271 hf0 hS (fun locs hS => ?_)
  exact lv_icmp_eq (tgt := 388) C.1 C.2.1 dL_law_274 (by decide) (fun _ => kk _ _ hI hS) (fun z => absurd rfl z)

set_option maxHeartbeats 4000000 in
set_option maxRecDepth 20000 in
theorem k_t_code (C : zC Z A p s m args meth c cL_law 4 RL rt) (hX : va_X b L xs s s.heap) (hbl : b < s.heap.size) (hbA : ¬ A b) (hAn : ∀ q, s.heap.size ≤ q → A q) (hl : lv_has ls 4 [(0, .ref b), (1, .ref o), (2, .ref oM), (3, zN i)]) (hL : L ≤ 3072) (hij : i + 5 < L) (hf : cells + 25 ≤ room_1.cells ∧ slots + 100 ≤ room_1.slots) (hI : lwI Z A o oM H) (hS : va_S A s.heap H locs)
    (kk : ∀ (H' : Heap) (locs' : List Loc), lwI Z A o oM H' → va_S A s.heap H' locs' → W p l e room_1 s m args below meth c H' locs' cells slots Q (F0 m 388 ls [])) : W p l e room_1 s m args below meth c H locs cells slots Q (F0 m 279 ls []) := by
  obtain ⟨ad, adB, adM, τ, τB, σ, F, t, f, kn, ⟨hR, ha, hC1, hC2, hM⟩, hap, hge, ⟨hF, ht, hfd, e0, e1, e2⟩, eb, e6, hLt⟩ := id hI
  have hf0 : cells ≤ room_1.cells ∧ slots ≤ room_1.slots := ⟨Nat.le_trans (Nat.le_add_right _ _) hf.1, Nat.le_trans (Nat.le_add_right _ _) hf.2⟩
  obtain ⟨r, w1, w2⟩ := b_code l Z hC2 hR hM hLt (sA xs i 1) (sA xs i 2) (sA_rg xs i 1) (sA_rg xs i 2)
  refine lv_aload_n C.1 C.2.1 dL_law_279 rfl (lv_at hl 1 rfl) ?_
  refine k_arg C hX hbl hbA hS hl hL 1 (by omega) (n := 1) rfl dL_law_280 dL_law_281 dL_law_282 dL_law_283 dL_law_284 ?_
  refine k_arg C hX hbl hbA hS hl hL 2 (by omega) (n := 2) rfl dL_law_285 dL_law_286 dL_law_287 dL_law_288 dL_law_289 ?_
  refine z_readV C (As := [zV (sA xs i 1), zV (sA xs i 2)]) (rest := []) w1 hR rfl ⟨⟨zw_38_7, zw_1_2, zw_38_4⟩, zd_X11_code⟩ zw_38_5 zw_38_6 ⟨Nat.le_of_ble_eq_true rfl, Nat.le_of_ble_eq_true rfl⟩ ⟨rfl, rfl⟩ rfl hl.1 rfl (Nat.le_of_ble_eq_true rfl) dL_law_290 hf0 hS (fun locs hS => ?_)
  refine lv_aload_n C.1 C.2.1 dL_law_293 rfl (lv_at hl 2 rfl) ?_
  refine k_arg C hX hbl hbA hS hl hL 1 (by omega) (n := 1) rfl dL_law_294 dL_law_295 dL_law_296 dL_law_297 dL_law_298 ?_
  refine k_arg C hX hbl hbA hS hl hL 2 (by omega) (n := 2) rfl dL_law_299 dL_law_300 dL_law_301 dL_law_302 dL_law_303 ?_
  refine z_readV C (As := [zV (sA xs i 1), zV (sA xs i 2)]) (rest := [zV r]) w2 hM.1 rfl ⟨⟨zw_38_17, zw_1_5, zw_38_14⟩, zd_X12_code⟩ zw_38_15 zw_38_16 ⟨Nat.le_of_ble_eq_true rfl, Nat.le_of_ble_eq_true rfl⟩ ⟨rfl, rfl⟩ rfl hl.1 rfl (Nat.le_of_ble_eq_true rfl) dL_law_304 hf0 hS (fun locs hS => ?_)
  exact lv_icmp_eq (tgt := 388) C.1 C.2.1 dL_law_307 (by decide) (fun _ => kk _ _ hI hS) (fun z => absurd rfl z)

set_option maxHeartbeats 4000000 in
set_option maxRecDepth 20000 in
theorem k_t_first (C : zC Z A p s m args meth c cL_law 4 RL rt) (hX : va_X b L xs s s.heap) (hbl : b < s.heap.size) (hbA : ¬ A b) (hAn : ∀ q, s.heap.size ≤ q → A q) (hl : lv_has ls 4 [(0, .ref b), (1, .ref o), (2, .ref oM), (3, zN i)]) (hL : L ≤ 3072) (hij : i + 5 < L) (hf : cells + 25 ≤ room_1.cells ∧ slots + 100 ≤ room_1.slots) (hI : lwI Z A o oM H) (hS : va_S A s.heap H locs)
    (kk : ∀ (H' : Heap) (locs' : List Loc), lwI Z A o oM H' → va_S A s.heap H' locs' → W p l e room_1 s m args below meth c H' locs' cells slots Q (F0 m 388 ls [])) : W p l e room_1 s m args below meth c H locs cells slots Q (F0 m 312 ls []) := by
  obtain ⟨ad, adB, adM, τ, τB, σ, F, t, f, kn, ⟨hR, ha, hC1, hC2, hM⟩, hap, hge, ⟨hF, ht, hfd, e0, e1, e2⟩, eb, e6, hLt⟩ := id hI
  have hf0 : cells ≤ room_1.cells ∧ slots ≤ room_1.slots := ⟨Nat.le_trans (Nat.le_add_right _ _) hf.1, Nat.le_trans (Nat.le_add_right _ _) hf.2⟩
  obtain ⟨r, w1, w2⟩ := b_first l Z hC2 hR hM hLt (sA xs i 1) (sA xs i 2) (sA_rg xs i 1) (sA_rg xs i 2)
  refine lv_aload_n C.1 C.2.1 dL_law_312 rfl (lv_at hl 1 rfl) ?_
  refine k_arg C hX hbl hbA hS hl hL 1 (by omega) (n := 1) rfl dL_law_313 dL_law_314 dL_law_315 dL_law_316 dL_law_317 ?_
  refine k_arg C hX hbl hbA hS hl hL 2 (by omega) (n := 2) rfl dL_law_318 dL_law_319 dL_law_320 dL_law_321 dL_law_322 ?_
  refine z_readV C (As := [zV (sA xs i 1), zV (sA xs i 2)]) (rest := []) w1 hR rfl ⟨⟨zw_39_1, zw_1_2, zw_38_22⟩, zd_X11_first⟩ zw_38_23 zw_39_0 ⟨Nat.le_of_ble_eq_true rfl, Nat.le_of_ble_eq_true rfl⟩ ⟨rfl, rfl⟩ rfl hl.1 rfl (Nat.le_of_ble_eq_true rfl) dL_law_323 hf0 hS (fun locs hS => ?_)
  refine lv_aload_n C.1 C.2.1 dL_law_326 rfl (lv_at hl 2 rfl) ?_
  refine k_arg C hX hbl hbA hS hl hL 1 (by omega) (n := 1) rfl dL_law_327 dL_law_328 dL_law_329 dL_law_330 dL_law_331 ?_
  refine k_arg C hX hbl hbA hS hl hL 2 (by omega) (n := 2) rfl dL_law_332 dL_law_333 dL_law_334 dL_law_335 dL_law_336 ?_
  refine z_readV C (As := [zV (sA xs i 1), zV (sA xs i 2)]) (rest := [zV r]) w2 hM.1 rfl ⟨⟨zw_39_22, zw_1_5, zw_39_19⟩, zd_X12_first⟩ zw_39_20 zw_39_21 ⟨Nat.le_of_ble_eq_true rfl, Nat.le_of_ble_eq_true rfl⟩ ⟨rfl, rfl⟩ rfl hl.1 rfl (Nat.le_of_ble_eq_true rfl) dL_law_337 hf0 hS (fun locs hS => ?_)
  exact lv_icmp_eq (tgt := 388) C.1 C.2.1 dL_law_340 (by decide) (fun _ => kk _ _ hI hS) (fun z => absurd rfl z)

set_option maxHeartbeats 4000000 in
set_option maxRecDepth 20000 in
theorem k_t_target (C : zC Z A p s m args meth c cL_law 4 RL rt) (hX : va_X b L xs s s.heap) (hbl : b < s.heap.size) (hbA : ¬ A b) (hAn : ∀ q, s.heap.size ≤ q → A q) (hl : lv_has ls 4 [(0, .ref b), (1, .ref o), (2, .ref oM), (3, zN i)]) (hL : L ≤ 3072) (hij : i + 5 < L) (hf : cells + 25 ≤ room_1.cells ∧ slots + 100 ≤ room_1.slots) (hI : lwI Z A o oM H) (hS : va_S A s.heap H locs)
    (kk : ∀ (H' : Heap) (locs' : List Loc), lwI Z A o oM H' → va_S A s.heap H' locs' → W p l e room_1 s m args below meth c H' locs' cells slots Q (F0 m 388 ls [])) : W p l e room_1 s m args below meth c H locs cells slots Q (F0 m 345 ls []) := by
  obtain ⟨ad, adB, adM, τ, τB, σ, F, t, f, kn, ⟨hR, ha, hC1, hC2, hM⟩, hap, hge, ⟨hF, ht, hfd, e0, e1, e2⟩, eb, e6, hLt⟩ := id hI
  have hf0 : cells ≤ room_1.cells ∧ slots ≤ room_1.slots := ⟨Nat.le_trans (Nat.le_add_right _ _) hf.1, Nat.le_trans (Nat.le_add_right _ _) hf.2⟩
  obtain ⟨r, w1, w2⟩ := b_target l Z hC2 hR hM hLt (sA xs i 1) (sA xs i 2) (sA xs i 3) (sA_rg xs i 1) (sA_rg xs i 2) (sA_rg xs i 3)
  refine lv_aload_n C.1 C.2.1 dL_law_345 rfl (lv_at hl 1 rfl) ?_
  refine k_arg C hX hbl hbA hS hl hL 1 (by omega) (n := 1) rfl dL_law_346 dL_law_347 dL_law_348 dL_law_349 dL_law_350 ?_
  refine k_arg C hX hbl hbA hS hl hL 2 (by omega) (n := 2) rfl dL_law_351 dL_law_352 dL_law_353 dL_law_354 dL_law_355 ?_
  refine k_arg C hX hbl hbA hS hl hL 3 (by omega) (n := 3) rfl dL_law_356 dL_law_357 dL_law_358 dL_law_359 dL_law_360 ?_
  refine z_readV C (As := [zV (sA xs i 1), zV (sA xs i 2), zV (sA xs i 3)]) (rest := []) w1 hR rfl ⟨⟨zw_40_2, zw_1_2, zw_39_23⟩, zd_X11_target⟩ zw_40_0 zw_40_1 ⟨Nat.le_of_ble_eq_true rfl, Nat.le_of_ble_eq_true rfl⟩ ⟨rfl, rfl⟩ rfl hl.1 rfl (Nat.le_of_ble_eq_true rfl) dL_law_361 hf0 hS (fun locs hS => ?_)
  refine lv_aload_n C.1 C.2.1 dL_law_364 rfl (lv_at hl 2 rfl) ?_
  refine k_arg C hX hbl hbA hS hl hL 1 (by omega) (n := 1) rfl dL_law_365 dL_law_366 dL_law_367 dL_law_368 dL_law_369 ?_
  refine k_arg C hX hbl hbA hS hl hL 2 (by omega) (n := 2) rfl dL_law_370 dL_law_371 dL_law_372 dL_law_373 dL_law_374 ?_
  refine k_arg C hX hbl hbA hS hl hL 3 (by omega) (n := 3) rfl dL_law_375 dL_law_376 dL_law_377 dL_law_378 dL_law_379 ?_
  refine z_readV C (As := [zV (sA xs i 1), zV (sA xs i 2), zV (sA xs i 3)]) (rest := [zV r]) w2 hM.1 rfl ⟨⟨zw_40_10, zw_1_5, zw_40_7⟩, zd_X12_target⟩ zw_40_8 zw_40_9 ⟨Nat.le_of_ble_eq_true rfl, Nat.le_of_ble_eq_true rfl⟩ ⟨rfl, rfl⟩ rfl hl.1 rfl (Nat.le_of_ble_eq_true rfl) dL_law_380 hf0 hS (fun locs hS => ?_)
  exact lv_icmp_eq (tgt := 388) C.1 C.2.1 dL_law_383 (by decide) (fun _ => kk _ _ hI hS) (fun z => absurd rfl z)

set_option maxHeartbeats 4000000 in
set_option maxRecDepth 20000 in
theorem k_t_place (C : zC Z A p s m args meth c cL_law 4 RL rt) (hX : va_X b L xs s s.heap) (hbl : b < s.heap.size) (hbA : ¬ A b) (hAn : ∀ q, s.heap.size ≤ q → A q) (hl : lv_has ls 4 [(0, .ref b), (1, .ref o), (2, .ref oM), (3, zN i)]) (hL : L ≤ 3072) (hij : i + 5 < L) (hf : cells + 25 ≤ room_1.cells ∧ slots + 100 ≤ room_1.slots) (hI : lwI Z A o oM H) (hS : va_S A s.heap H locs)
    (kk : ∀ (H' : Heap) (locs' : List Loc), lwI Z A o oM H' → va_S A s.heap H' locs' → W p l e room_1 s m args below meth c H' locs' cells slots Q (F0 m 388 ls [])) : W p l e room_1 s m args below meth c H locs cells slots Q (F0 m 187 ls []) := by
  obtain ⟨ad, adB, adM, τ, τB, σ, F, t, f, kn, ⟨hR, ha, hC1, hC2, hM⟩, hap, hge, ⟨hF, ht, hfd, e0, e1, e2⟩, eb, e6, hLt⟩ := id hI
  have hf0 : cells ≤ room_1.cells ∧ slots ≤ room_1.slots := ⟨Nat.le_trans (Nat.le_add_right _ _) hf.1, Nat.le_trans (Nat.le_add_right _ _) hf.2⟩
  refine lv_aload_n C.1 C.2.1 dL_law_187 rfl (lv_at hl 1 rfl) ?_
  refine z_readV C (As := []) (rest := []) (c_X11_place l Z hC1 hR ha.2.1) hR rfl ⟨⟨zw_36_3, zw_1_2, zw_36_0⟩, zd_X11_place⟩ zw_36_1 zw_36_2 ⟨Nat.le_of_ble_eq_true rfl, Nat.le_of_ble_eq_true rfl⟩ ⟨rfl, rfl⟩ rfl hl.1 rfl (Nat.le_of_ble_eq_true rfl) dL_law_188 hf0 hS (fun locs hS => ?_)
  refine z_re (zI_of _) ?_
  refine lv_aload_n C.1 C.2.1 dL_law_191 rfl (lv_at hl 2 rfl) ?_
  refine z_readV C (As := []) (rest := [zV (τ.1 9).toInt]) (c_X12_place l Z hM (t := (τ.1 9).toInt) (e6.trans (zI_of _))) hM.1 rfl ⟨⟨zw_36_8, zw_1_5, zw_36_5⟩, zd_X12_place⟩ zw_36_6 zw_36_7 ⟨Nat.le_of_ble_eq_true rfl, Nat.le_of_ble_eq_true rfl⟩ ⟨rfl, rfl⟩ rfl hl.1 rfl (Nat.le_of_ble_eq_true rfl) dL_law_192 hf0 hS (fun locs hS => ?_)
  exact lv_icmp_eq (tgt := 388) C.1 C.2.1 dL_law_195 (by decide) (fun _ => kk _ _ hI hS) (fun z => absurd rfl z)
end LWR
section LWF
variable {p : Program} {l : Launch} {e : Env} {s : State} {m : MethodId} {args : Array Value} {below : List Frame} {meth : Method} {c : Code} {H : Heap} {locs : List Loc} {cells slots : Nat} {Q : State → Prop}
variable {Z : zT} {rt : Option FieldType} {ls : Array Slot} {rest : List Value} {A : Nat → Prop} {b L i o oM : Nat} {xs : Nat → Int32}

set_option maxHeartbeats 4000000 in
set_option maxRecDepth 20000 in
theorem k_t_feed (C : zC Z A p s m args meth c cL_law 4 RL rt) (hX : va_X b L xs s s.heap) (hbl : b < s.heap.size) (hbA : ¬ A b) (hAn : ∀ q, s.heap.size ≤ q → A q) (hl : lv_has ls 4 [(0, .ref b), (1, .ref o), (2, .ref oM), (3, zN i)]) (hL : L ≤ 3072) (hij : i + 5 < L) (hf : cells + 25 ≤ room_1.cells ∧ slots + 100 ≤ room_1.slots) (hI : lwI Z A o oM H) (hS : va_S A s.heap H locs)
    (kk : ∀ (H' : Heap) (locs' : List Loc), lwI Z A o oM H' → va_S A s.heap H' locs' → W p l e room_1 s m args below meth c H' locs' cells slots Q (F0 m 388 ls [])) : W p l e room_1 s m args below meth c H locs cells slots Q (F0 m 88 ls []) := by
  obtain ⟨ad, adB, adM, τ, τB, σ, F, t, f, kn, ⟨hR, ha, hC1, hC2, hM⟩, hap, hge, ⟨hF, ht, hfd, e0, e1, e2⟩, eb, e6, hLt⟩ := id hI
  have hf0 : cells ≤ room_1.cells ∧ slots ≤ room_1.slots := ⟨Nat.le_trans (Nat.le_add_right _ _) hf.1, Nat.le_trans (Nat.le_add_right _ _) hf.2⟩
  refine lv_aload_n C.1 C.2.1 dL_law_88 rfl (lv_at hl 1 rfl) ?_
  refine k_arg C hX hbl hbA hS hl hL 1 (by omega) (n := 1) rfl dL_law_89 dL_law_90 dL_law_91 dL_law_92 dL_law_93 ?_
  refine k_arg C hX hbl hbA hS hl hL 2 (by omega) (n := 2) rfl dL_law_94 dL_law_95 dL_law_96 dL_law_97 dL_law_98 ?_
  refine k_arg C hX hbl hbA hS hl hL 3 (by omega) (n := 3) rfl dL_law_99 dL_law_100 dL_law_101 dL_law_102 dL_law_103 ?_
  refine k_arg C hX hbl hbA hS hl hL 4 (by omega) (n := 4) rfl dL_law_104 dL_law_105 dL_law_106 dL_law_107 dL_law_108 ?_
  refine k_arg C hX hbl hbA hS hl hL 5 (by omega) (n := 5) rfl dL_law_109 dL_law_110 dL_law_111 dL_law_112 dL_law_113 ?_
  refine z_callV C (As := [zV (sA xs i 1), zV (sA xs i 2), zV (sA xs i 3), zV (sA xs i 4), zV (sA xs i 5)]) (rest := []) (c_X11_feed l Z hC1 hR ha.2.1 e0 ht hfd (zI (sA xs i 1)) (zI (sA xs i 2)) (zI (sA xs i 3)) (zI (sA xs i 4)) (zI (sA xs i 5))) hR rfl ⟨⟨zw_6_8, zw_1_2, zw_6_5⟩, zd_X11_feed⟩ zw_6_6 zw_6_7 ⟨Nat.le_of_ble_eq_true rfl, Nat.le_of_ble_eq_true rfl⟩ ⟨rfl, rfl⟩ rfl hl.1 rfl (Nat.le_of_ble_eq_true rfl) dL_law_114 hf0 hS (fun q h => by rcases h with rfl | ⟨i, hi, rfl⟩; exact hge.1; exact hge.2.1 i hi) (fun v H locs hp_ hS _ hkk => ?_)
  have hM := hM.kept (fun q hq => hkk q (hM.lt hq) (fun z => by rcases z with z | ⟨i, hi, z⟩; exact (hap q hq).1 z; exact (hap q hq).2.1 i hi z))
  by_cases hc : t + 20 ≤ 16000 ∧ f + 20 ≤ 65536
  · obtain ⟨rfl, τ', hC1', hT, hR⟩ := hp_.1 hc
    have hC2 := vstep hC2 hC1' ha hkk (fun j hj hne z => z.elim (ha.2.2.1 j hj) (fun ⟨i, hi, e⟩ => ha.2.2.2 i j hi hj hne e.symm))
    have hC1 := hC1'
    refine lv_aload_n C.1 C.2.1 dL_law_117 rfl (lv_at hl 2 rfl) ?_
    refine k_arg C hX hbl hbA hS hl hL 1 (by omega) (n := 1) rfl dL_law_118 dL_law_119 dL_law_120 dL_law_121 dL_law_122 ?_
    refine k_arg C hX hbl hbA hS hl hL 2 (by omega) (n := 2) rfl dL_law_123 dL_law_124 dL_law_125 dL_law_126 dL_law_127 ?_
    refine k_arg C hX hbl hbA hS hl hL 3 (by omega) (n := 3) rfl dL_law_128 dL_law_129 dL_law_130 dL_law_131 dL_law_132 ?_
    refine k_arg C hX hbl hbA hS hl hL 4 (by omega) (n := 4) rfl dL_law_133 dL_law_134 dL_law_135 dL_law_136 dL_law_137 ?_
    refine k_arg C hX hbl hbA hS hl hL 5 (by omega) (n := 5) rfl dL_law_138 dL_law_139 dL_law_140 dL_law_141 dL_law_142 ?_
    refine z_callV C (As := [zV (sA xs i 1), zV (sA xs i 2), zV (sA xs i 3), zV (sA xs i 4), zV (sA xs i 5)]) (rest := [zN (t + 20)]) (c_X12_feed l Z hM e1 e2 ht hfd (zI (sA xs i 1)) (zI (sA xs i 2)) (zI (sA xs i 3)) (zI (sA xs i 4)) (zI (sA xs i 5))) hM.1 rfl ⟨⟨zw_6_19, zw_1_5, zw_6_16⟩, zd_X12_feed⟩ zw_6_17 zw_6_18 ⟨Nat.le_of_ble_eq_true rfl, Nat.le_of_ble_eq_true rfl⟩ ⟨rfl, rfl⟩ rfl hl.1 rfl (Nat.le_of_ble_eq_true rfl) dL_law_143 hf0 hS hge.2.2.2 (fun v H locs hp_ hS _ hkk => ?_)
    obtain ⟨rfl, σ', hM, e2', hT2⟩ := hp_.1 hc
    have hR := hR.kept (hkk o hR.lt (fun z => (hap o z).1 rfl))
    have hC1 := hC1.keep (fun i hi => hkk _ (hC1.lt hi) (fun z => (hap _ z).2.1 i hi rfl)) (fun q hq => absurd hq List.not_mem_nil)
    have hC2 := hC2.keep (fun i hi => hkk _ (hC2.lt hi) (fun z => (hap _ z).2.2 i hi rfl)) (fun q hq => absurd hq List.not_mem_nil)
    refine lv_icmp_eq (tgt := 388) C.1 C.2.1 dL_law_146 (by decide) (fun _ => kk _ _ ⟨ad, adB, adM, τ', τB, σ', fdF F t (fb (zI (sA xs i 1)) (zI (sA xs i 2)) (zI (sA xs i 3)) (zI (sA xs i 4)) (zI (sA xs i 5))), t + 20, f + 20, kn, ⟨hR, ha, hC1, hC2, hM⟩, hap, hge, ⟨fdF_ok hF, hc.1, hc.2, hT.2.1, hT2.2.1, e2'⟩, fun j hj => ?_, ?_, hLt.to (fun k h1 h2 => hT2.1.1 k (fun z => by simp at z; omega)) (fun k h1 h2 => hT2.1.2.1 k (fun z => by simp at z; omega))⟩ hS) (fun z => absurd rfl z)
    · by_cases hj2 : j < t
      · have e : fdF F t (fb (zI (sA xs i 1)) (zI (sA xs i 2)) (zI (sA xs i 3)) (zI (sA xs i 4)) (zI (sA xs i 5))) j = F j := if_pos hj2
        rw [e]
        exact ⟨(hT.2.2.1 j hj2).trans (eb j hj2).1, (hT2.2.2.1 j hj2).trans (eb j hj2).2⟩
      · have e : fdF F t (fb (zI (sA xs i 1)) (zI (sA xs i 2)) (zI (sA xs i 3)) (zI (sA xs i 4)) (zI (sA xs i 5))) j = ub (fb (zI (sA xs i 1)) (zI (sA xs i 2)) (zI (sA xs i 3)) (zI (sA xs i 4)) (zI (sA xs i 5)) (j - t)) := if_neg hj2
        rw [e, ← fb_sb]
        have h1 := hT.2.2.2 (j - t) (by omega)
        have h2 := hT2.2.2.2 (j - t) (by omega)
        rw [show t + (j - t) = j by omega] at h1 h2
        exact ⟨h1, h2⟩
    · exact (hT2.1.1 6 (by decide)).trans (e6.trans (hT.1.1 9 (by decide)).symm)
  · obtain ⟨rfl, hC1', hR⟩ := hp_.2 hc
    have hC2 := vstep hC2 hC1' ha hkk (fun j hj hne z => z.elim (ha.2.2.1 j hj) (fun ⟨i, hi, e⟩ => ha.2.2.2 i j hi hj hne e.symm))
    have hC1 := hC1'
    refine lv_aload_n C.1 C.2.1 dL_law_117 rfl (lv_at hl 2 rfl) ?_
    refine k_arg C hX hbl hbA hS hl hL 1 (by omega) (n := 1) rfl dL_law_118 dL_law_119 dL_law_120 dL_law_121 dL_law_122 ?_
    refine k_arg C hX hbl hbA hS hl hL 2 (by omega) (n := 2) rfl dL_law_123 dL_law_124 dL_law_125 dL_law_126 dL_law_127 ?_
    refine k_arg C hX hbl hbA hS hl hL 3 (by omega) (n := 3) rfl dL_law_128 dL_law_129 dL_law_130 dL_law_131 dL_law_132 ?_
    refine k_arg C hX hbl hbA hS hl hL 4 (by omega) (n := 4) rfl dL_law_133 dL_law_134 dL_law_135 dL_law_136 dL_law_137 ?_
    refine k_arg C hX hbl hbA hS hl hL 5 (by omega) (n := 5) rfl dL_law_138 dL_law_139 dL_law_140 dL_law_141 dL_law_142 ?_
    refine z_callV C (As := [zV (sA xs i 1), zV (sA xs i 2), zV (sA xs i 3), zV (sA xs i 4), zV (sA xs i 5)]) (rest := [zV (-1)]) (c_X12_feed l Z hM e1 e2 ht hfd (zI (sA xs i 1)) (zI (sA xs i 2)) (zI (sA xs i 3)) (zI (sA xs i 4)) (zI (sA xs i 5))) hM.1 rfl ⟨⟨zw_6_19, zw_1_5, zw_6_16⟩, zd_X12_feed⟩ zw_6_17 zw_6_18 ⟨Nat.le_of_ble_eq_true rfl, Nat.le_of_ble_eq_true rfl⟩ ⟨rfl, rfl⟩ rfl hl.1 rfl (Nat.le_of_ble_eq_true rfl) dL_law_143 hf0 hS hge.2.2.2 (fun v H locs hp_ hS _ hkk => ?_)
    obtain ⟨rfl, hM⟩ := hp_.2 hc
    have hR := hR.kept (hkk o hR.lt (fun z => (hap o z).1 rfl))
    have hC1 := hC1.keep (fun i hi => hkk _ (hC1.lt hi) (fun z => (hap _ z).2.1 i hi rfl)) (fun q hq => absurd hq List.not_mem_nil)
    have hC2 := hC2.keep (fun i hi => hkk _ (hC2.lt hi) (fun z => (hap _ z).2.2 i hi rfl)) (fun q hq => absurd hq List.not_mem_nil)
    exact lv_icmp_eq (tgt := 388) C.1 C.2.1 dL_law_146 (by decide) (fun _ => kk _ _ ⟨ad, adB, adM, τ, τB, σ, F, t, f, kn, ⟨hR, ha, hC1, hC2, hM⟩, hap, hge, ⟨hF, ht, hfd, e0, e1, e2⟩, eb, e6, hLt⟩ hS) (fun z => absurd rfl z)

set_option maxHeartbeats 4000000 in
set_option maxRecDepth 20000 in
theorem k_t_end (C : zC Z A p s m args meth c cL_law 4 RL rt) (hX : va_X b L xs s s.heap) (hbl : b < s.heap.size) (hbA : ¬ A b) (hAn : ∀ q, s.heap.size ≤ q → A q) (hl : lv_has ls 4 [(0, .ref b), (1, .ref o), (2, .ref oM), (3, zN i)]) (hL : L ≤ 3072) (hij : i + 5 < L) (hf : cells + 25 ≤ room_1.cells ∧ slots + 100 ≤ room_1.slots) (hI : lwI Z A o oM H) (hS : va_S A s.heap H locs)
    (kk : ∀ (H' : Heap) (locs' : List Loc), lwI Z A o oM H' → va_S A s.heap H' locs' → W p l e room_1 s m args below meth c H' locs' cells slots Q (F0 m 388 ls [])) : W p l e room_1 s m args below meth c H locs cells slots Q (F0 m 151 ls []) := by
  obtain ⟨ad, adB, adM, τ, τB, σ, F, t, f, kn, ⟨hR, ha, hC1, hC2, hM⟩, hap, hge, ⟨hF, ht, hfd, e0, e1, e2⟩, eb, e6, hLt⟩ := id hI
  have hf0 : cells ≤ room_1.cells ∧ slots ≤ room_1.slots := ⟨Nat.le_trans (Nat.le_add_right _ _) hf.1, Nat.le_trans (Nat.le_add_right _ _) hf.2⟩
  refine lv_aload_n C.1 C.2.1 dL_law_151 rfl (lv_at hl 1 rfl) ?_
  refine k_arg C hX hbl hbA hS hl hL 1 (by omega) (n := 1) rfl dL_law_152 dL_law_153 dL_law_154 dL_law_155 dL_law_156 ?_
  have hx := sA_rg xs i 1
  refine z_callV C (As := [zV (sA xs i 1)]) (rest := []) (c_X11_end l Z hC1 hR ha.2.1 e0 ht (sA xs i 1) hx) hR rfl ⟨⟨zw_7_6, zw_1_2, zw_7_3⟩, zd_X11_end⟩ zw_7_4 zw_7_5 ⟨Nat.le_of_ble_eq_true rfl, Nat.le_of_ble_eq_true rfl⟩ ⟨rfl, rfl⟩ rfl hl.1 rfl (Nat.le_of_ble_eq_true rfl) dL_law_157 hf0 hS (fun q h => by rcases h with rfl | ⟨i, hi, rfl⟩; exact hge.1; exact hge.2.1 i hi) (fun v H locs hp_ hS _ hkk => ?_)
  have hM := hM.kept (fun q hq => hkk q (hM.lt hq) (fun z => by rcases z with z | ⟨i, hi, z⟩; exact (hap q hq).1 z; exact (hap q hq).2.1 i hi z))
  by_cases hc : 0 ≤ sA xs i 1 ∧ sA xs i 1 ≤ (t : Int)
  · obtain ⟨rfl, hC1', hR⟩ := hp_.1 hc
    have hC2 := vstep hC2 hC1' ha hkk (fun j hj hne z => z.elim (ha.2.2.1 j hj) (fun ⟨i, hi, e⟩ => ha.2.2.2 i j hi hj hne e.symm))
    have hC1 := hC1'
    refine lv_aload_n C.1 C.2.1 dL_law_160 rfl (lv_at hl 2 rfl) ?_
    refine k_arg C hX hbl hbA hS hl hL 1 (by omega) (n := 1) rfl dL_law_161 dL_law_162 dL_law_163 dL_law_164 dL_law_165 ?_
    refine z_callV C (As := [zV (sA xs i 1)]) (rest := [zV 1]) (c_X12_end l Z hM e1 ht (sA xs i 1) hx) hM.1 rfl ⟨⟨zw_7_10, zw_1_5, zw_7_7⟩, zd_X12_end⟩ zw_7_8 zw_7_9 ⟨Nat.le_of_ble_eq_true rfl, Nat.le_of_ble_eq_true rfl⟩ ⟨rfl, rfl⟩ rfl hl.1 rfl (Nat.le_of_ble_eq_true rfl) dL_law_166 hf0 hS hge.2.2.2 (fun v H locs hp_ hS _ hkk => ?_)
    obtain ⟨rfl, hM⟩ := hp_.1 hc
    have hR := hR.kept (hkk o hR.lt (fun z => (hap o z).1 rfl))
    have hC1 := hC1.keep (fun i hi => hkk _ (hC1.lt hi) (fun z => (hap _ z).2.1 i hi rfl)) (fun q hq => absurd hq List.not_mem_nil)
    have hC2 := hC2.keep (fun i hi => hkk _ (hC2.lt hi) (fun z => (hap _ z).2.2 i hi rfl)) (fun q hq => absurd hq List.not_mem_nil)
    have ex : zI (sA xs i 1) = zI (((sA xs i 1).toNat : Nat) : Int) := zI_c (by omega)
    exact lv_icmp_eq (tgt := 388) C.1 C.2.1 dL_law_169 (by decide) (fun _ => kk _ _ ⟨ad, adB, adM, _, τB, _, F, (sA xs i 1).toNat, f, kn, ⟨hR, ha, hC1, hC2, hM⟩, hap, hge, ⟨hF, by omega, hfd, ex, ex, e2⟩, fun j hj => eb j (by omega), e6, hLt.to (fun k h1 h2 => upd_ne (by omega)) (fun k h1 h2 => rfl)⟩ hS) (fun z => absurd rfl z)
  · obtain ⟨rfl, hC1', hR⟩ := hp_.2 hc
    have hC2 := vstep hC2 hC1' ha hkk (fun j hj hne z => z.elim (ha.2.2.1 j hj) (fun ⟨i, hi, e⟩ => ha.2.2.2 i j hi hj hne e.symm))
    have hC1 := hC1'
    refine lv_aload_n C.1 C.2.1 dL_law_160 rfl (lv_at hl 2 rfl) ?_
    refine k_arg C hX hbl hbA hS hl hL 1 (by omega) (n := 1) rfl dL_law_161 dL_law_162 dL_law_163 dL_law_164 dL_law_165 ?_
    refine z_callV C (As := [zV (sA xs i 1)]) (rest := [zV 0]) (c_X12_end l Z hM e1 ht (sA xs i 1) hx) hM.1 rfl ⟨⟨zw_7_10, zw_1_5, zw_7_7⟩, zd_X12_end⟩ zw_7_8 zw_7_9 ⟨Nat.le_of_ble_eq_true rfl, Nat.le_of_ble_eq_true rfl⟩ ⟨rfl, rfl⟩ rfl hl.1 rfl (Nat.le_of_ble_eq_true rfl) dL_law_166 hf0 hS hge.2.2.2 (fun v H locs hp_ hS _ hkk => ?_)
    obtain ⟨rfl, hM⟩ := hp_.2 hc
    have hR := hR.kept (hkk o hR.lt (fun z => (hap o z).1 rfl))
    have hC1 := hC1.keep (fun i hi => hkk _ (hC1.lt hi) (fun z => (hap _ z).2.1 i hi rfl)) (fun q hq => absurd hq List.not_mem_nil)
    have hC2 := hC2.keep (fun i hi => hkk _ (hC2.lt hi) (fun z => (hap _ z).2.2 i hi rfl)) (fun q hq => absurd hq List.not_mem_nil)
    exact lv_icmp_eq (tgt := 388) C.1 C.2.1 dL_law_169 (by decide) (fun _ => kk _ _ ⟨ad, adB, adM, τ, τB, σ, F, t, f, kn, ⟨hR, ha, hC1, hC2, hM⟩, hap, hge, ⟨hF, ht, hfd, e0, e1, e2⟩, eb, e6, hLt⟩ hS) (fun z => absurd rfl z)

set_option maxHeartbeats 4000000 in
set_option maxRecDepth 20000 in
theorem k_t_read (C : zC Z A p s m args meth c cL_law 4 RL rt) (hX : va_X b L xs s s.heap) (hbl : b < s.heap.size) (hbA : ¬ A b) (hAn : ∀ q, s.heap.size ≤ q → A q) (hl : lv_has ls 4 [(0, .ref b), (1, .ref o), (2, .ref oM), (3, zN i)]) (hL : L ≤ 3072) (hij : i + 5 < L) (hf : cells + 25 ≤ room_1.cells ∧ slots + 100 ≤ room_1.slots) (hI : lwI Z A o oM H) (hS : va_S A s.heap H locs)
    (kk : ∀ (H' : Heap) (locs' : List Loc), lwI Z A o oM H' → va_S A s.heap H' locs' → W p l e room_1 s m args below meth c H' locs' (cells + 25) (slots + 100) Q (F0 m 388 ls [])) : W p l e room_1 s m args below meth c H locs cells slots Q (F0 m 174 ls []) := by
  obtain ⟨ad, adB, adM, τ, τB, σ, F, t, f, kn, ⟨hR, ha, hC1, hC2, hM⟩, hap, hge, ⟨hF, ht, hfd, e0, e1, e2⟩, eb, e6, hLt⟩ := id hI
  have hf0 : cells ≤ room_1.cells ∧ slots ≤ room_1.slots := ⟨Nat.le_trans (Nat.le_add_right _ _) hf.1, Nat.le_trans (Nat.le_add_right _ _) hf.2⟩
  refine lv_aload_n C.1 C.2.1 dL_law_174 rfl (lv_at hl 1 rfl) ?_
  refine z_callV C (As := []) (rest := []) (c_X11_read l Z hC1 ⟨hF, fun j hj => (eb j hj).1, e0, ht⟩ hR ha hC2 rfl) hR rfl ⟨⟨zw_7_14, zw_1_2, zw_7_11⟩, zd_X11_read⟩ zw_7_12 zw_7_13 ⟨Nat.le_of_ble_eq_true rfl, Nat.le_of_ble_eq_true rfl⟩ ⟨rfl, rfl⟩ rfl hl.1 rfl (Nat.le_of_ble_eq_true rfl) dL_law_175 hf hS (fun q h => by rcases h with rfl | ⟨i, hi, rfl⟩ | ⟨i, hi, rfl⟩ | h; exact hge.1; exact hge.2.1 i hi; exact hge.2.2.1 i hi; exact hAn q (Nat.le_trans hS.1 h)) (fun v H1 locs hp_ hS _ hkk => ?_)
  have hM := hM.kept (fun q hq => hkk q (hM.lt hq) (fun z => by rcases z with z | ⟨i, hi, z⟩ | ⟨i, hi, z⟩ | z; exact (hap q hq).1 z; exact (hap q hq).2.1 i hi z; exact (hap q hq).2.2 i hi z; exact absurd (hM.lt hq) (Nat.not_lt.mpr z)))
  rcases hp_ with ⟨tb, cl, nf, nm, mt, fa, last, eL, eF, rfl, τ', hC2', hC1', hR, hAll, g8, g9, hs⟩ | ⟨r, w, eF, rfl, τ', hC1', x0, x8, x9, hC2', hR⟩
  · have hC1 := hC1'
    have hC2 := hC2'
    refine lv_aload_n C.1 C.2.1 dL_law_178 rfl (lv_at hl 2 rfl) ?_
    refine z_callVH C (As := []) (rest := [zN 0]) (c_X12_read l Z hM hF (fun j hj => (eb j hj).2) ht e1) hM.1 rfl zw_25_13 zw_1_5 zw_25_10 zd_X12_read zw_25_11 zw_25_12 ⟨Nat.le_of_ble_eq_true rfl, Nat.le_of_ble_eq_true rfl⟩ ⟨rfl, rfl⟩ rfl hl.1 rfl (Nat.le_of_ble_eq_true rfl) dL_law_179 hf hS hge.2.2.2 (fun v H2 locs hp_ hS _ hkk => ?_)
    rcases hp_ with ⟨r', w', eF', rfl, σ', hM, hcg, y1, y6⟩ | ⟨eF', rfl, σ', tb', cl', nf', nm', mt', fa', last', eL', hM, hcg, y1, y6, -, -, hkp⟩
    · exact absurd (eF.symm.trans eF') (by simp)
    · cases eL.symm.trans eL'
      have hR := hR.kept (hkk o hR.lt (fun z => (hap o z).1 rfl))
      have hC1 := hC1.keep (fun i hi => hkk _ (hC1.lt hi) (fun z => (hap _ z).2.1 i hi rfl)) (fun q hq => absurd hq List.not_mem_nil)
      have hC2 := hC2.keep (fun i hi => hkk _ (hC2.lt hi) (fun z => (hap _ z).2.2 i hi rfl)) (fun q hq => absurd hq List.not_mem_nil)
      rw [ha.1] at hR
      exact lv_icmp_eq (tgt := 388) C.1 C.2.1 dL_law_182 (by decide) (fun _ => kk _ _ ⟨adB, ad, adM, sx (vv τ' τB) 0 (zI 0), τ', σ', F, 0, f, 1, ⟨hR, ha.sw hC1 hC2, hC2, by rw [vv_self (τA := sx (vv τ' τB) 0 (zI 0)) (τ := τ') rfl rfl]; exact hC1, hM⟩, fun q hq => ⟨(hap q hq).1, (hap q hq).2.2, (hap q hq).2.1⟩, ⟨hge.1, hge.2.2.1, hge.2.1, hge.2.2.2⟩, ⟨hF, Nat.zero_le _, hfd, rfl, y1, (hcg.1 2 (by decide)).trans e2⟩, fun j hj => absurd hj (Nat.not_lt_zero _), y6.trans g9.symm, Or.inr ⟨rfl, F, t, tb, cl, nf, nm, mt, fa, last, good_of hF ht eL eF, hs, hAll, hkp⟩⟩ hS) (fun z => absurd rfl z)
  · have hC1 := hC1'
    have hC2 := hC2'
    refine lv_aload_n C.1 C.2.1 dL_law_178 rfl (lv_at hl 2 rfl) ?_
    refine z_callVH C (As := []) (rest := [zN r]) (c_X12_read l Z hM hF (fun j hj => (eb j hj).2) ht e1) hM.1 rfl zw_25_13 zw_1_5 zw_25_10 zd_X12_read zw_25_11 zw_25_12 ⟨Nat.le_of_ble_eq_true rfl, Nat.le_of_ble_eq_true rfl⟩ ⟨rfl, rfl⟩ rfl hl.1 rfl (Nat.le_of_ble_eq_true rfl) dL_law_179 hf hS hge.2.2.2 (fun v H2 locs hp_ hS _ hkk => ?_)
    rcases hp_ with ⟨r', w', eF', rfl, σ', hM, hcg, y1, y6⟩ | ⟨eF', rfl, σ', tb', cl', nf', nm', mt', fa', last', eL', hM, hcg, y1, y6, -, -, hkp⟩
    · cases eF.symm.trans eF'
      have hR := hR.kept (hkk o hR.lt (fun z => (hap o z).1 rfl))
      have hC1 := hC1.keep (fun i hi => hkk _ (hC1.lt hi) (fun z => (hap _ z).2.1 i hi rfl)) (fun q hq => absurd hq List.not_mem_nil)
      have hC2 := hC2.keep (fun i hi => hkk _ (hC2.lt hi) (fun z => (hap _ z).2.2 i hi rfl)) (fun q hq => absurd hq List.not_mem_nil)
      exact lv_icmp_eq (tgt := 388) C.1 C.2.1 dL_law_182 (by decide) (fun _ => kk _ _ ⟨ad, adB, adM, τ', τB, σ', F, 0, f, kn, ⟨hR, ha, hC1, hC2, hM⟩, hap, hge, ⟨hF, Nat.zero_le _, hfd, x0, y1, (hcg.1 2 (by decide)).trans e2⟩, fun j hj => absurd hj (Nat.not_lt_zero _), y6.trans x9.symm, hLt.to (fun k h1 h2 => hcg.1 k (fun z => by simp [DX] at z; omega)) (fun k h1 h2 => hcg.2.1 k (fun z => by simp [RF] at z; omega))⟩ hS) (fun z => absurd rfl z)
    · exact absurd (eF.symm.trans eF') (by simp)
end LWF
