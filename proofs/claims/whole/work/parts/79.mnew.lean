/-! the model's constructor -/
def lW (Z : zT) (A : Nat → Prop) (H : Heap) (o : Nat) (fs : List Value) (L : va_W) : Prop := va_P Z.1 vwCl ((o, .inr (8, fs)) :: L) H ∧ va_D A ((o, .inr (8, fs)) :: L)
def thrB : List Cond := [.declares (Bundle.init0 "java/lang/RuntimeException"), .declares (Bundle.init0 "java/lang/Exception"), .declares (Bundle.init0 "java/lang/Throwable"), .castable "java/lang/IllegalStateException" "java/lang/IllegalStateException"]
theorem thrB_eq : (vx_at0 RX12 15 "java/lang/IllegalStateException" ["java/lang/RuntimeException", "java/lang/Exception"]).filter (fun w => !goodWord w) = thrB := by decide +kernel
theorem thr_ot : ∀ w ∈ Cond.classLink RX12 13 "java/lang/IllegalStateException" :: Cond.initialized "java/lang/IllegalStateException" :: vx_at0 RX12 15 "java/lang/IllegalStateException" ["java/lang/RuntimeException", "java/lang/Exception"], vx_ot w = true := List.all_eq_true.mp (by decide +kernel)
section BM
variable {p : Program} {l : Launch} {e : Env} {R : Room} {s : State} {m : MethodId} {args : Array Value} {below : List Frame} {meth : Method} {c : Code} {H H1 : Heap} {locs : List Loc} {cells slots : Nat} {Q : State → Prop}
variable {Z : zT} {cc : ByteArray} {nL : Nat} {own : String} {ret : Option FieldType} {A : Nat → Prop} {pc : Nat} {ls : Array Slot} {rest : List Value} {o : Nat} {fs fs' : List Value} {L : va_W}
theorem d_one {a : Nat} {x : va_E} (h : A a) : va_D A [(a, x)] := by
  refine ⟨fun i j p q hi hj _ => ?_, fun k q hk => ?_⟩
  · have h1 : i < 1 := (List.getElem?_eq_some_iff.mp hi).1
    have h2 : j < 1 := (List.getElem?_eq_some_iff.mp hj).1
    omega
  · have h1 : k < 1 := (List.getElem?_eq_some_iff.mp hk).1
    rw [show k = 0 by omega] at hk
    cases hk
    exact h
theorem lW.put (h : lW Z A H o fs L) (u : zUp H H1 o) (n : zAt Z H1 o (.inr (8, fs'))) : lW Z A H1 o fs' L := ⟨h.1.set h.2 (p := 0) (e0 := .inr (8, fs)) rfl n u.2, va_D.set (p := 0) (a := o) (e0 := .inr (8, fs)) (e := .inr (8, fs')) h.2 rfl⟩
def nF (g : Nat → Value) : List Value := (List.range 52).map g
def gset (g : Nat → Value) (k : Nat) (v : Value) : Nat → Value := fun j => if j = k then v else g j
def g0 : Nat → Value := fun k => if k ∈ [0, 3, 7, 11, 12, 13, 14, 15, 20, 22, 23, 25, 26, 27, 28, 29, 30, 34, 36, 38, 40, 41, 47, 48, 49, 50, 51] then .null else .int 0
theorem nF_len (g : Nat → Value) : (nF g).length = 52 := by unfold nF; rw [List.length_map, List.length_range]
theorem nF_set (g : Nat → Value) (k : Nat) (v : Value) : (nF g).set k v = nF (gset g k v) := by
  unfold nF gset
  apply List.ext_getElem (by simp)
  intro i h1 h2
  by_cases h : k = i
  · subst h; simp
  · simp [List.getElem_set, h, Ne.symm h]
theorem lW.putN {g : Nat → Value} {k : Nat} {v : Value} (h : lW Z A H o (nF g) L) (u : zUp H H1 o) (n : zAt Z H1 o (.inr (8, (nF g).set k v))) : lW Z A H1 o (nF (gset g k v)) L := h.put u (by rw [← nF_set]; exact n)
theorem l_exc (C : zC Z A p s m args meth c cX12_init 1 RX12 ret) (hst : l.stackTraces = false) (hM : lW Z A H o fs L) (hA : ∀ q, s.heap.size ≤ q → A q) (hsz : ls.size = 1) (hS : va_S A s.heap H locs) (hF : 5 < R.frames) (hLo : (rest.map fun v => v.category).sum + 81 ≤ R.locals) (hcells : cells + 1 ≤ R.cells) (hslots : slots + 6 ≤ R.slots)
    (kk : ∀ (q : Nat) (H : Heap), lW Z A H o fs (L ++ [(q, .inr (0, []))]) → va_S A s.heap H locs → W p l e R s m args below meth c H locs (cells + 1) (slots + 6) Q (F0 m 21 ls (.ref q :: rest))) : W p l e R s m args below meth c H locs cells slots Q (F0 m 14 ls rest) := by
  have hz := C.2.2.2.2.2.2.2.2.2.1.2.2.2.2.2.2.2.2.2.2.2.2
  have hq := C.2.2.2.2.2.2.2.2.2.2.2.1.2
  refine vx_make0 (names := ["java/lang/RuntimeException", "java/lang/Exception"]) (ci := 0) (ik := 13) (ic := 15) C.1 C.2.1 hst C.2.2.2.1 (by decide) (by decide) (C.2.2.2.2.1 _ zw_4_16) (C.2.2.2.2.1 _ zw_6_3) (vx_hat (B := thrB) (fun w hw => C.2.2.2.2.1 _ (bi_x0 w hw)) (fun w hw => by rw [thrB_eq] at hw; exact hw) (vx_c (va_Nw.use rfl hz.1) (vx_c (va_Nw.use rfl hz.2.1) (vx_c (va_Nw.use rfl hz.2.2.1) (vx_c (va_Nw.use rfl hz.2.2.2) vx_n))))) thr_ot hq.1 hq.2 hS (hsz.trans C.2.2.1.symm) dX12_init_14 dX12_init_17 dX12_init_18 C.2.2.2.2.2.1 hM.1 hM.2 hA rfl hF hLo hcells hslots (fun q H1 a b d => kk q H1 ⟨a, b⟩ d)
theorem l_newaI (C : zC Z A p s m args meth c cc nL own ret) (hM : lW Z A H o fs L) (hA : ∀ q, s.heap.size ≤ q → A q) {n : Nat} (hn : ¬ zI (n : Int) < 0) (hN : (zI (n : Int)).toNatClampNeg = n) (hb : n * 8 ≤ 536870912) (hcells : cells + 1 ≤ R.cells) (hslots : slots + n ≤ R.slots) (hS : va_S A s.heap H locs) (hdg : decode cc pc = .ok (.newarray .int, 2))
    (kk : ∀ (q : Nat) (H : Heap), lW Z A H o fs (L ++ [(q, .inl (Z.2.1 1, (n, .inl (fun _ => 0))))]) → va_S A s.heap H locs → W p l e R s m args below meth c H locs (cells + 1) (slots + n) Q (F0 m (pc + 2) ls (.ref q :: rest))) : W p l e R s m args below meth c H locs cells slots Q (F0 m pc ls (zN n :: rest)) := by
  refine va_newaK (atype := .int) C.1 C.2.1 (C.2.2.2.2.1 _ zw_2_21) rfl hdg rfl hn hN (by show n * 4 ≤ _; omega) hcells hslots rfl fun H1 cA e1 z1 o1 _ f1 => ?_
  have ec : cA = Z.2.1 1 := Option.some.inj (f1.symm.trans (va_nm_int (C.2.2.2.2.2.1.2 1 _ rfl).2))
  subst ec
  refine kk H.size H1 ⟨(hM.1.kept (fun k x hx => o1 x.1 (hM.1 k x hx).lt)).app (fun k x hx => ?_), hM.2.push hM.1 rfl (hA _ hS.1)⟩ ⟨Nat.le_trans hS.1 (by rw [z1]; omega), fun x h1 h2 => (o1 x (Nat.lt_of_lt_of_le h1 hS.1)).trans (hS.2.1 x h1 h2), hS.2.2⟩
  have hz : k < 1 := (List.getElem?_eq_some_iff.mp hx).1
  rw [show k = 0 by omega] at hx
  cases hx
  exact e1
theorem l_newaB (C : zC Z A p s m args meth c cc nL own ret) (hM : lW Z A H o fs L) (hA : ∀ q, s.heap.size ≤ q → A q) {n : Nat} (hn : ¬ zI (n : Int) < 0) (hN : (zI (n : Int)).toNatClampNeg = n) (hb : n * 8 ≤ 536870912) (hcells : cells + 1 ≤ R.cells) (hslots : slots + n ≤ R.slots) (hS : va_S A s.heap H locs) (hdg : decode cc pc = .ok (.newarray .byte, 2))
    (kk : ∀ (q : Nat) (H : Heap), lW Z A H o fs (L ++ [(q, .inl (Z.2.1 0, (n, .inl (fun _ => 0))))]) → va_S A s.heap H locs → W p l e R s m args below meth c H locs (cells + 1) (slots + n) Q (F0 m (pc + 2) ls (.ref q :: rest))) : W p l e R s m args below meth c H locs cells slots Q (F0 m pc ls (zN n :: rest)) := by
  refine va_newaK (atype := .byte) C.1 C.2.1 (C.2.2.2.2.1 _ zw_3_18) rfl hdg rfl hn hN (by show n * 1 ≤ _; omega) hcells hslots rfl fun H1 cA e1 z1 o1 _ f1 => ?_
  have ec : cA = Z.2.1 0 := Option.some.inj (f1.symm.trans (va_nm_byte (C.2.2.2.2.2.1.2 0 _ rfl).2))
  subst ec
  refine kk H.size H1 ⟨(hM.1.kept (fun k x hx => o1 x.1 (hM.1 k x hx).lt)).app (fun k x hx => ?_), hM.2.push hM.1 rfl (hA _ hS.1)⟩ ⟨Nat.le_trans hS.1 (by rw [z1]; omega), fun x h1 h2 => (o1 x (Nat.lt_of_lt_of_le h1 hS.1)).trans (hS.2.1 x h1 h2), hS.2.2⟩
  have hz : k < 1 := (List.getElem?_eq_some_iff.mp hx).1
  rw [show k = 0 by omega] at hx
  cases hx
  exact e1
theorem l_newaL (C : zC Z A p s m args meth c cc nL own ret) (hM : lW Z A H o fs L) (hA : ∀ q, s.heap.size ≤ q → A q) {n : Nat} (hn : ¬ zI (n : Int) < 0) (hN : (zI (n : Int)).toNatClampNeg = n) (hb : n * 8 ≤ 536870912) (hcells : cells + 1 ≤ R.cells) (hslots : slots + n ≤ R.slots) (hS : va_S A s.heap H locs) (hdg : decode cc pc = .ok (.newarray .long, 2))
    (kk : ∀ (q : Nat) (H : Heap), lW Z A H o fs (L ++ [(q, .inl (Z.2.1 2, (n, .inr (.inl (fun _ => 0)))))]) → va_S A s.heap H locs → W p l e R s m args below meth c H locs (cells + 1) (slots + n) Q (F0 m (pc + 2) ls (.ref q :: rest))) : W p l e R s m args below meth c H locs cells slots Q (F0 m pc ls (zN n :: rest)) := by
  refine va_newaK (atype := .long) C.1 C.2.1 (C.2.2.2.2.1 _ zw_5_2) rfl hdg rfl hn hN (by show n * 8 ≤ _; omega) hcells hslots rfl fun H1 cA e1 z1 o1 _ f1 => ?_
  have ec : cA = Z.2.1 2 := Option.some.inj (f1.symm.trans (va_nm_long (C.2.2.2.2.2.1.2 2 _ rfl).2))
  subst ec
  refine kk H.size H1 ⟨(hM.1.kept (fun k x hx => o1 x.1 (hM.1 k x hx).lt)).app (fun k x hx => ?_), hM.2.push hM.1 rfl (hA _ hS.1)⟩ ⟨Nat.le_trans hS.1 (by rw [z1]; omega), fun x h1 h2 => (o1 x (Nat.lt_of_lt_of_le h1 hS.1)).trans (hS.2.1 x h1 h2), hS.2.2⟩
  have hz : k < 1 := (List.getElem?_eq_some_iff.mp hx).1
  rw [show k = 0 by omega] at hx
  cases hx
  exact e1
end BM

def mPos : Nat → Nat := fun k => match k with
  | 0 => 0
  | 3 => 1
  | 11 => 2
  | 12 => 3
  | 13 => 4
  | 14 => 5
  | 15 => 6
  | 20 => 7
  | 22 => 8
  | 23 => 9
  | 25 => 10
  | 26 => 11
  | 27 => 12
  | 28 => 13
  | 29 => 14
  | 30 => 15
  | 34 => 16
  | 36 => 17
  | 38 => 18
  | 40 => 19
  | 41 => 20
  | 47 => 21
  | 48 => 22
  | 49 => 23
  | 50 => 24
  | 51 => 25
  | _ => 26

def σ0 : mS := (fun i => if i = 6 then zI (-1) else 0, fun _ _ => 0, fun _ => 0)

theorem mPos_inj : ∀ i ∈ mAll, ∀ j ∈ mAll, mPos i = mPos j → i = j := by decide

set_option maxHeartbeats 4000000 in
set_option maxRecDepth 20000 in
theorem nF_fin {q0 q1 q2 q3 q4 q5 q6 q7 q8 q9 q10 q11 q12 q13 q14 q15 q16 q17 q18 q19 q20 q21 q22 q23 q24 q25 : Nat} : nF (gset (gset (gset (gset (gset (gset (gset (gset (gset (gset (gset (gset (gset (gset (gset (gset (gset (gset (gset (gset (gset (gset (gset (gset (gset (gset (gset g0 0 (.ref q0)) 3 (.ref q1)) 6 (zV (-1))) 11 (.ref q2)) 12 (.ref q3)) 13 (.ref q4)) 14 (.ref q5)) 15 (.ref q6)) 20 (.ref q7)) 22 (.ref q8)) 23 (.ref q9)) 25 (.ref q10)) 26 (.ref q11)) 27 (.ref q12)) 28 (.ref q13)) 29 (.ref q14)) 30 (.ref q15)) 34 (.ref q16)) 36 (.ref q17)) 38 (.ref q18)) 40 (.ref q19)) 41 (.ref q20)) 47 (.ref q21)) 48 (.ref q22)) 49 (.ref q23)) 50 (.ref q24)) 51 (.ref q25)) = mfs (fun k => ([q0, q1, q2, q3, q4, q5, q6, q7, q8, q9, q10, q11, q12, q13, q14, q15, q16, q17, q18, q19, q20, q21, q22, q23, q24, q25] : List Nat).getD (mPos k) 0) σ0 := rfl

theorem lW_isM {Z : zT} {H : Heap} {o s0 q0 q1 q2 q3 q4 q5 q6 q7 q8 q9 q10 q11 q12 q13 q14 q15 q16 q17 q18 q19 q20 q21 q22 q23 q24 q25 : Nat} (hM : lW Z (nA o s0) H o (nF (gset (gset (gset (gset (gset (gset (gset (gset (gset (gset (gset (gset (gset (gset (gset (gset (gset (gset (gset (gset (gset (gset (gset (gset (gset (gset (gset g0 0 (.ref q0)) 3 (.ref q1)) 6 (zV (-1))) 11 (.ref q2)) 12 (.ref q3)) 13 (.ref q4)) 14 (.ref q5)) 15 (.ref q6)) 20 (.ref q7)) 22 (.ref q8)) 23 (.ref q9)) 25 (.ref q10)) 26 (.ref q11)) 27 (.ref q12)) 28 (.ref q13)) 29 (.ref q14)) 30 (.ref q15)) 34 (.ref q16)) 36 (.ref q17)) 38 (.ref q18)) 40 (.ref q19)) 41 (.ref q20)) 47 (.ref q21)) 48 (.ref q22)) 49 (.ref q23)) 50 (.ref q24)) 51 (.ref q25))) [(q0, .inl (Z.2.1 0, (16000, .inl (fun _ => 0)))), (q1, .inr (0, [])), (q2, .inl (Z.2.1 1, (502, .inl (fun _ => 0)))), (q3, .inl (Z.2.1 1, (502, .inl (fun _ => 0)))), (q4, .inl (Z.2.1 1, (502, .inl (fun _ => 0)))), (q5, .inl (Z.2.1 1, (502, .inl (fun _ => 0)))), (q6, .inl (Z.2.1 2, (502, .inr (.inl (fun _ => 0))))), (q7, .inl (Z.2.1 1, (48, .inl (fun _ => 0)))), (q8, .inl (Z.2.1 1, (3000, .inl (fun _ => 0)))), (q9, .inl (Z.2.1 1, (3000, .inl (fun _ => 0)))), (q10, .inl (Z.2.1 1, (24, .inl (fun _ => 0)))), (q11, .inl (Z.2.1 1, (24, .inl (fun _ => 0)))), (q12, .inl (Z.2.1 1, (24, .inl (fun _ => 0)))), (q13, .inl (Z.2.1 1, (24, .inl (fun _ => 0)))), (q14, .inl (Z.2.1 1, (24, .inl (fun _ => 0)))), (q15, .inl (Z.2.1 1, (24, .inl (fun _ => 0)))), (q16, .inl (Z.2.1 1, (1201, .inl (fun _ => 0)))), (q17, .inl (Z.2.1 1, (86400, .inl (fun _ => 0)))), (q18, .inl (Z.2.1 1, (40000, .inl (fun _ => 0)))), (q19, .inl (Z.2.1 1, (24, .inl (fun _ => 0)))), (q20, .inl (Z.2.1 1, (24, .inl (fun _ => 0)))), (q21, .inl (Z.2.1 1, (24, .inl (fun _ => 0)))), (q22, .inl (Z.2.1 1, (144, .inl (fun _ => 0)))), (q23, .inl (Z.2.1 1, (24, .inl (fun _ => 0)))), (q24, .inl (Z.2.1 1, (86400, .inl (fun _ => 0)))), (q25, .inl (Z.2.1 1, (40000, .inl (fun _ => 0))))]) : ∃ ad, isM Z H o ad σ0 ∧ ∀ k ∈ mAll, s0 ≤ ad k := by
  have hp : ∀ k ∈ mAll, ∃ e, ((o, (.inr (8, nF (gset (gset (gset (gset (gset (gset (gset (gset (gset (gset (gset (gset (gset (gset (gset (gset (gset (gset (gset (gset (gset (gset (gset (gset (gset (gset (gset g0 0 (.ref q0)) 3 (.ref q1)) 6 (zV (-1))) 11 (.ref q2)) 12 (.ref q3)) 13 (.ref q4)) 14 (.ref q5)) 15 (.ref q6)) 20 (.ref q7)) 22 (.ref q8)) 23 (.ref q9)) 25 (.ref q10)) 26 (.ref q11)) 27 (.ref q12)) 28 (.ref q13)) 29 (.ref q14)) 30 (.ref q15)) 34 (.ref q16)) 36 (.ref q17)) 38 (.ref q18)) 40 (.ref q19)) 41 (.ref q20)) 47 (.ref q21)) 48 (.ref q22)) 49 (.ref q23)) 50 (.ref q24)) 51 (.ref q25))) : va_E)) :: [(q0, .inl (Z.2.1 0, (16000, .inl (fun _ => 0)))), (q1, .inr (0, [])), (q2, .inl (Z.2.1 1, (502, .inl (fun _ => 0)))), (q3, .inl (Z.2.1 1, (502, .inl (fun _ => 0)))), (q4, .inl (Z.2.1 1, (502, .inl (fun _ => 0)))), (q5, .inl (Z.2.1 1, (502, .inl (fun _ => 0)))), (q6, .inl (Z.2.1 2, (502, .inr (.inl (fun _ => 0))))), (q7, .inl (Z.2.1 1, (48, .inl (fun _ => 0)))), (q8, .inl (Z.2.1 1, (3000, .inl (fun _ => 0)))), (q9, .inl (Z.2.1 1, (3000, .inl (fun _ => 0)))), (q10, .inl (Z.2.1 1, (24, .inl (fun _ => 0)))), (q11, .inl (Z.2.1 1, (24, .inl (fun _ => 0)))), (q12, .inl (Z.2.1 1, (24, .inl (fun _ => 0)))), (q13, .inl (Z.2.1 1, (24, .inl (fun _ => 0)))), (q14, .inl (Z.2.1 1, (24, .inl (fun _ => 0)))), (q15, .inl (Z.2.1 1, (24, .inl (fun _ => 0)))), (q16, .inl (Z.2.1 1, (1201, .inl (fun _ => 0)))), (q17, .inl (Z.2.1 1, (86400, .inl (fun _ => 0)))), (q18, .inl (Z.2.1 1, (40000, .inl (fun _ => 0)))), (q19, .inl (Z.2.1 1, (24, .inl (fun _ => 0)))), (q20, .inl (Z.2.1 1, (24, .inl (fun _ => 0)))), (q21, .inl (Z.2.1 1, (24, .inl (fun _ => 0)))), (q22, .inl (Z.2.1 1, (144, .inl (fun _ => 0)))), (q23, .inl (Z.2.1 1, (24, .inl (fun _ => 0)))), (q24, .inl (Z.2.1 1, (86400, .inl (fun _ => 0)))), (q25, .inl (Z.2.1 1, (40000, .inl (fun _ => 0))))])[mPos k + 1]? = some (([q0, q1, q2, q3, q4, q5, q6, q7, q8, q9, q10, q11, q12, q13, q14, q15, q16, q17, q18, q19, q20, q21, q22, q23, q24, q25] : List Nat).getD (mPos k) 0, e) := by
    intro k hk
    simp only [mAll, mIdx, List.mem_cons, List.not_mem_nil, or_false] at hk
    rcases hk with rfl | rfl | rfl | rfl | rfl | rfl | rfl | rfl | rfl | rfl | rfl | rfl | rfl | rfl | rfl | rfl | rfl | rfl | rfl | rfl | rfl | rfl | rfl | rfl | rfl | rfl <;> exact ⟨_, rfl⟩
  have hne : ∀ k ∈ mAll, ([q0, q1, q2, q3, q4, q5, q6, q7, q8, q9, q10, q11, q12, q13, q14, q15, q16, q17, q18, q19, q20, q21, q22, q23, q24, q25] : List Nat).getD (mPos k) 0 ≠ o := fun k hk z => by
    obtain ⟨e, he⟩ := hp k hk
    have := hM.2.1 0 (mPos k + 1) _ _ rfl he z.symm
    omega
  refine ⟨fun k => ([q0, q1, q2, q3, q4, q5, q6, q7, q8, q9, q10, q11, q12, q13, q14, q15, q16, q17, q18, q19, q20, q21, q22, q23, q24, q25] : List Nat).getD (mPos k) 0, ⟨by rw [← nF_fin]; exact hM.1 0 _ rfl, fun k hk => ?_, hM.1 1 _ rfl, hM.1 7 _ rfl, hM.1 2 _ rfl, hne, fun i hi j hj z => ?_⟩, fun k hk => ?_⟩
  · simp only [mIdx, List.mem_cons, List.not_mem_nil, or_false] at hk
    rcases hk with rfl | rfl | rfl | rfl | rfl | rfl | rfl | rfl | rfl | rfl | rfl | rfl | rfl | rfl | rfl | rfl | rfl | rfl | rfl | rfl | rfl | rfl | rfl
    · exact hM.1 3 _ rfl
    · exact hM.1 4 _ rfl
    · exact hM.1 5 _ rfl
    · exact hM.1 6 _ rfl
    · exact hM.1 8 _ rfl
    · exact hM.1 9 _ rfl
    · exact hM.1 10 _ rfl
    · exact hM.1 11 _ rfl
    · exact hM.1 12 _ rfl
    · exact hM.1 13 _ rfl
    · exact hM.1 14 _ rfl
    · exact hM.1 15 _ rfl
    · exact hM.1 16 _ rfl
    · exact hM.1 17 _ rfl
    · exact hM.1 18 _ rfl
    · exact hM.1 19 _ rfl
    · exact hM.1 20 _ rfl
    · exact hM.1 21 _ rfl
    · exact hM.1 22 _ rfl
    · exact hM.1 23 _ rfl
    · exact hM.1 24 _ rfl
    · exact hM.1 25 _ rfl
    · exact hM.1 26 _ rfl
  · obtain ⟨e, he⟩ := hp i hi
    obtain ⟨e2, he2⟩ := hp j hj
    have := hM.2.1 _ _ _ _ he he2 z
    exact mPos_inj i hi j hj (by omega)
  · obtain ⟨e, he⟩ := hp k hk
    exact (hM.2.2 _ _ he).elim (fun z => absurd z (hne k hk)) id

set_option maxHeartbeats 4000000 in
set_option maxRecDepth 20000 in
theorem c_X12_init (l : Launch) (hst : l.stackTraces = false) (Z : zT) {H : Heap} {o s0 : Nat} (ho : zAt Z H o (.inr (8, nF g0))) (hs : H.size = s0) : zM l Z yX12_init cX12_init 1 none { rmk 6 with cells := 26, slots := 278949 } [.ref o] H (nA o s0) 26 278949 (fun v H' => v = none ∧ ∃ ad, isM Z H' o ad σ0 ∧ ∀ k ∈ mAll, s0 ≤ ad k) := by
  refine zM.introV (own := RX12) ⟨by decide, rfl⟩ (Nat.le_of_ble_eq_true rfl) ?_
  intro p e s m args below meth c Q ls hH C hnm hl hret
  have hS : va_S (nA o s0) s.heap H [] := by rw [hH]; exact va_S.rf
  have hA : ∀ q, s.heap.size ≤ q → nA o s0 q := fun q hq => Or.inr (by rw [hH, hs] at hq; exact hq)
  have hl : lv_has ls 1 [(0, .ref o)] := hl
  have hM : lW Z (nA o s0) H o (nF g0) [] := ⟨ho.sing, d_one (Or.inl rfl)⟩
  refine lv_aload_n C.1 C.2.1 dX12_init_0 rfl (lv_at hl 0 rfl) ?_
  refine z_objI C zw_4_18 hl.1 (Nat.le_of_ble_eq_true rfl) ⟨Nat.le_of_ble_eq_true rfl, Nat.le_of_ble_eq_true rfl⟩ dX12_init_1 ?_
  refine lv_aload_n C.1 C.2.1 dX12_init_4 rfl (lv_at hl 0 rfl) ?_
  refine lv_sipush (v := zI 16000) C.1 C.2.1 dX12_init_5 (by decide) ?_
  refine l_newaB C hM hA (n := 16000) (by decide) (by decide) (by decide) (Nat.le_of_ble_eq_true rfl) (Nat.le_of_ble_eq_true rfl) hS dX12_init_8 (fun q0 H hM hS => ?_)
  have hM : lW Z (nA o s0) H o (nF g0) [(q0, .inl (Z.2.1 0, (16000, .inl (fun _ => 0))))] := hM
  refine z_putF C (v := .ref q0) tyX12 (hM.1 0 _ rfl) rfl bi_wsX120 tyX12_ok nmX12 0 (by decide) zw_4_19 rfl rfl hnm rfl rfl rfl (by rw [nF_len]; decide) hS (Or.inl rfl) dX12_init_10 (fun H locs hu hn hS => ?_)
  have hM := hM.putN hu hn
  refine lv_aload_n C.1 C.2.1 dX12_init_13 rfl (lv_at hl 0 rfl) ?_
  refine l_exc C hst hM hA hl.1 hS (Nat.le_of_ble_eq_true rfl) (Nat.le_of_ble_eq_true rfl) (Nat.le_of_ble_eq_true rfl) (Nat.le_of_ble_eq_true rfl) (fun q1 H hM hS => ?_)
  have hM : lW Z (nA o s0) H o (nF (gset g0 0 (.ref q0))) [(q0, .inl (Z.2.1 0, (16000, .inl (fun _ => 0)))), (q1, .inr (0, []))] := hM
  refine z_putF C (v := .ref q1) tyX12 (hM.1 0 _ rfl) rfl bi_wsX120 tyX12_ok nmX12 3 (by decide) zw_4_20 rfl rfl hnm rfl rfl rfl (by rw [nF_len]; decide) hS (Or.inl rfl) dX12_init_21 (fun H locs hu hn hS => ?_)
  have hM := hM.putN hu hn
  refine lv_aload_n C.1 C.2.1 dX12_init_24 rfl (lv_at hl 0 rfl) ?_
  refine lv_iconst (v := zI (-1)) C.1 C.2.1 dX12_init_25 (by decide) ?_
  refine z_put C (v := zV (-1)) tyX12 (hM.1 0 _ rfl) rfl bi_wsX120 tyX12_ok nmX12 6 (by decide) zw_4_21 rfl rfl rfl rfl (by rw [nF_len]; decide) hS (Or.inl rfl) dX12_init_26 (fun H locs hu hn hS => ?_)
  have hM := hM.putN hu hn
  refine lv_aload_n C.1 C.2.1 dX12_init_29 rfl (lv_at hl 0 rfl) ?_
  refine lv_sipush (v := zI 502) C.1 C.2.1 dX12_init_30 (by decide) ?_
  refine l_newaI C hM hA (n := 502) (by decide) (by decide) (by decide) (Nat.le_of_ble_eq_true rfl) (Nat.le_of_ble_eq_true rfl) hS dX12_init_33 (fun q2 H hM hS => ?_)
  have hM : lW Z (nA o s0) H o (nF (gset (gset (gset g0 0 (.ref q0)) 3 (.ref q1)) 6 (zV (-1)))) [(q0, .inl (Z.2.1 0, (16000, .inl (fun _ => 0)))), (q1, .inr (0, [])), (q2, .inl (Z.2.1 1, (502, .inl (fun _ => 0))))] := hM
  refine z_putF C (v := .ref q2) tyX12 (hM.1 0 _ rfl) rfl bi_wsX120 tyX12_ok nmX12 11 (by decide) zw_4_22 rfl rfl hnm rfl rfl rfl (by rw [nF_len]; decide) hS (Or.inl rfl) dX12_init_35 (fun H locs hu hn hS => ?_)
  have hM := hM.putN hu hn
  refine lv_aload_n C.1 C.2.1 dX12_init_38 rfl (lv_at hl 0 rfl) ?_
  refine lv_sipush (v := zI 502) C.1 C.2.1 dX12_init_39 (by decide) ?_
  refine l_newaI C hM hA (n := 502) (by decide) (by decide) (by decide) (Nat.le_of_ble_eq_true rfl) (Nat.le_of_ble_eq_true rfl) hS dX12_init_42 (fun q3 H hM hS => ?_)
  have hM : lW Z (nA o s0) H o (nF (gset (gset (gset (gset g0 0 (.ref q0)) 3 (.ref q1)) 6 (zV (-1))) 11 (.ref q2))) [(q0, .inl (Z.2.1 0, (16000, .inl (fun _ => 0)))), (q1, .inr (0, [])), (q2, .inl (Z.2.1 1, (502, .inl (fun _ => 0)))), (q3, .inl (Z.2.1 1, (502, .inl (fun _ => 0))))] := hM
  refine z_putF C (v := .ref q3) tyX12 (hM.1 0 _ rfl) rfl bi_wsX120 tyX12_ok nmX12 12 (by decide) zw_4_23 rfl rfl hnm rfl rfl rfl (by rw [nF_len]; decide) hS (Or.inl rfl) dX12_init_44 (fun H locs hu hn hS => ?_)
  have hM := hM.putN hu hn
  refine lv_aload_n C.1 C.2.1 dX12_init_47 rfl (lv_at hl 0 rfl) ?_
  refine lv_sipush (v := zI 502) C.1 C.2.1 dX12_init_48 (by decide) ?_
  refine l_newaI C hM hA (n := 502) (by decide) (by decide) (by decide) (Nat.le_of_ble_eq_true rfl) (Nat.le_of_ble_eq_true rfl) hS dX12_init_51 (fun q4 H hM hS => ?_)
  have hM : lW Z (nA o s0) H o (nF (gset (gset (gset (gset (gset g0 0 (.ref q0)) 3 (.ref q1)) 6 (zV (-1))) 11 (.ref q2)) 12 (.ref q3))) [(q0, .inl (Z.2.1 0, (16000, .inl (fun _ => 0)))), (q1, .inr (0, [])), (q2, .inl (Z.2.1 1, (502, .inl (fun _ => 0)))), (q3, .inl (Z.2.1 1, (502, .inl (fun _ => 0)))), (q4, .inl (Z.2.1 1, (502, .inl (fun _ => 0))))] := hM
  refine z_putF C (v := .ref q4) tyX12 (hM.1 0 _ rfl) rfl bi_wsX120 tyX12_ok nmX12 13 (by decide) zw_5_0 rfl rfl hnm rfl rfl rfl (by rw [nF_len]; decide) hS (Or.inl rfl) dX12_init_53 (fun H locs hu hn hS => ?_)
  have hM := hM.putN hu hn
  refine lv_aload_n C.1 C.2.1 dX12_init_56 rfl (lv_at hl 0 rfl) ?_
  refine lv_sipush (v := zI 502) C.1 C.2.1 dX12_init_57 (by decide) ?_
  refine l_newaI C hM hA (n := 502) (by decide) (by decide) (by decide) (Nat.le_of_ble_eq_true rfl) (Nat.le_of_ble_eq_true rfl) hS dX12_init_60 (fun q5 H hM hS => ?_)
  have hM : lW Z (nA o s0) H o (nF (gset (gset (gset (gset (gset (gset g0 0 (.ref q0)) 3 (.ref q1)) 6 (zV (-1))) 11 (.ref q2)) 12 (.ref q3)) 13 (.ref q4))) [(q0, .inl (Z.2.1 0, (16000, .inl (fun _ => 0)))), (q1, .inr (0, [])), (q2, .inl (Z.2.1 1, (502, .inl (fun _ => 0)))), (q3, .inl (Z.2.1 1, (502, .inl (fun _ => 0)))), (q4, .inl (Z.2.1 1, (502, .inl (fun _ => 0)))), (q5, .inl (Z.2.1 1, (502, .inl (fun _ => 0))))] := hM
  refine z_putF C (v := .ref q5) tyX12 (hM.1 0 _ rfl) rfl bi_wsX120 tyX12_ok nmX12 14 (by decide) zw_5_1 rfl rfl hnm rfl rfl rfl (by rw [nF_len]; decide) hS (Or.inl rfl) dX12_init_62 (fun H locs hu hn hS => ?_)
  have hM := hM.putN hu hn
  refine lv_aload_n C.1 C.2.1 dX12_init_65 rfl (lv_at hl 0 rfl) ?_
  refine lv_sipush (v := zI 502) C.1 C.2.1 dX12_init_66 (by decide) ?_
  refine l_newaL C hM hA (n := 502) (by decide) (by decide) (by decide) (Nat.le_of_ble_eq_true rfl) (Nat.le_of_ble_eq_true rfl) hS dX12_init_69 (fun q6 H hM hS => ?_)
  have hM : lW Z (nA o s0) H o (nF (gset (gset (gset (gset (gset (gset (gset g0 0 (.ref q0)) 3 (.ref q1)) 6 (zV (-1))) 11 (.ref q2)) 12 (.ref q3)) 13 (.ref q4)) 14 (.ref q5))) [(q0, .inl (Z.2.1 0, (16000, .inl (fun _ => 0)))), (q1, .inr (0, [])), (q2, .inl (Z.2.1 1, (502, .inl (fun _ => 0)))), (q3, .inl (Z.2.1 1, (502, .inl (fun _ => 0)))), (q4, .inl (Z.2.1 1, (502, .inl (fun _ => 0)))), (q5, .inl (Z.2.1 1, (502, .inl (fun _ => 0)))), (q6, .inl (Z.2.1 2, (502, .inr (.inl (fun _ => 0)))))] := hM
  refine z_putF C (v := .ref q6) tyX12 (hM.1 0 _ rfl) rfl bi_wsX120 tyX12_ok nmX12 15 (by decide) zw_5_3 rfl rfl hnm rfl rfl rfl (by rw [nF_len]; decide) hS (Or.inl rfl) dX12_init_71 (fun H locs hu hn hS => ?_)
  have hM := hM.putN hu hn
  refine lv_aload_n C.1 C.2.1 dX12_init_74 rfl (lv_at hl 0 rfl) ?_
  refine lv_bipush (v := zI 48) C.1 C.2.1 dX12_init_75 (by decide) ?_
  refine l_newaI C hM hA (n := 48) (by decide) (by decide) (by decide) (Nat.le_of_ble_eq_true rfl) (Nat.le_of_ble_eq_true rfl) hS dX12_init_77 (fun q7 H hM hS => ?_)
  have hM : lW Z (nA o s0) H o (nF (gset (gset (gset (gset (gset (gset (gset (gset g0 0 (.ref q0)) 3 (.ref q1)) 6 (zV (-1))) 11 (.ref q2)) 12 (.ref q3)) 13 (.ref q4)) 14 (.ref q5)) 15 (.ref q6))) [(q0, .inl (Z.2.1 0, (16000, .inl (fun _ => 0)))), (q1, .inr (0, [])), (q2, .inl (Z.2.1 1, (502, .inl (fun _ => 0)))), (q3, .inl (Z.2.1 1, (502, .inl (fun _ => 0)))), (q4, .inl (Z.2.1 1, (502, .inl (fun _ => 0)))), (q5, .inl (Z.2.1 1, (502, .inl (fun _ => 0)))), (q6, .inl (Z.2.1 2, (502, .inr (.inl (fun _ => 0))))), (q7, .inl (Z.2.1 1, (48, .inl (fun _ => 0))))] := hM
  refine z_putF C (v := .ref q7) tyX12 (hM.1 0 _ rfl) rfl bi_wsX120 tyX12_ok nmX12 20 (by decide) zw_5_4 rfl rfl hnm rfl rfl rfl (by rw [nF_len]; decide) hS (Or.inl rfl) dX12_init_79 (fun H locs hu hn hS => ?_)
  have hM := hM.putN hu hn
  refine lv_aload_n C.1 C.2.1 dX12_init_82 rfl (lv_at hl 0 rfl) ?_
  refine lv_sipush (v := zI 3000) C.1 C.2.1 dX12_init_83 (by decide) ?_
  refine l_newaI C hM hA (n := 3000) (by decide) (by decide) (by decide) (Nat.le_of_ble_eq_true rfl) (Nat.le_of_ble_eq_true rfl) hS dX12_init_86 (fun q8 H hM hS => ?_)
  have hM : lW Z (nA o s0) H o (nF (gset (gset (gset (gset (gset (gset (gset (gset (gset g0 0 (.ref q0)) 3 (.ref q1)) 6 (zV (-1))) 11 (.ref q2)) 12 (.ref q3)) 13 (.ref q4)) 14 (.ref q5)) 15 (.ref q6)) 20 (.ref q7))) [(q0, .inl (Z.2.1 0, (16000, .inl (fun _ => 0)))), (q1, .inr (0, [])), (q2, .inl (Z.2.1 1, (502, .inl (fun _ => 0)))), (q3, .inl (Z.2.1 1, (502, .inl (fun _ => 0)))), (q4, .inl (Z.2.1 1, (502, .inl (fun _ => 0)))), (q5, .inl (Z.2.1 1, (502, .inl (fun _ => 0)))), (q6, .inl (Z.2.1 2, (502, .inr (.inl (fun _ => 0))))), (q7, .inl (Z.2.1 1, (48, .inl (fun _ => 0)))), (q8, .inl (Z.2.1 1, (3000, .inl (fun _ => 0))))] := hM
  refine z_putF C (v := .ref q8) tyX12 (hM.1 0 _ rfl) rfl bi_wsX120 tyX12_ok nmX12 22 (by decide) zw_5_5 rfl rfl hnm rfl rfl rfl (by rw [nF_len]; decide) hS (Or.inl rfl) dX12_init_88 (fun H locs hu hn hS => ?_)
  have hM := hM.putN hu hn
  refine lv_aload_n C.1 C.2.1 dX12_init_91 rfl (lv_at hl 0 rfl) ?_
  refine lv_sipush (v := zI 3000) C.1 C.2.1 dX12_init_92 (by decide) ?_
  refine l_newaI C hM hA (n := 3000) (by decide) (by decide) (by decide) (Nat.le_of_ble_eq_true rfl) (Nat.le_of_ble_eq_true rfl) hS dX12_init_95 (fun q9 H hM hS => ?_)
  have hM : lW Z (nA o s0) H o (nF (gset (gset (gset (gset (gset (gset (gset (gset (gset (gset g0 0 (.ref q0)) 3 (.ref q1)) 6 (zV (-1))) 11 (.ref q2)) 12 (.ref q3)) 13 (.ref q4)) 14 (.ref q5)) 15 (.ref q6)) 20 (.ref q7)) 22 (.ref q8))) [(q0, .inl (Z.2.1 0, (16000, .inl (fun _ => 0)))), (q1, .inr (0, [])), (q2, .inl (Z.2.1 1, (502, .inl (fun _ => 0)))), (q3, .inl (Z.2.1 1, (502, .inl (fun _ => 0)))), (q4, .inl (Z.2.1 1, (502, .inl (fun _ => 0)))), (q5, .inl (Z.2.1 1, (502, .inl (fun _ => 0)))), (q6, .inl (Z.2.1 2, (502, .inr (.inl (fun _ => 0))))), (q7, .inl (Z.2.1 1, (48, .inl (fun _ => 0)))), (q8, .inl (Z.2.1 1, (3000, .inl (fun _ => 0)))), (q9, .inl (Z.2.1 1, (3000, .inl (fun _ => 0))))] := hM
  refine z_putF C (v := .ref q9) tyX12 (hM.1 0 _ rfl) rfl bi_wsX120 tyX12_ok nmX12 23 (by decide) zw_5_6 rfl rfl hnm rfl rfl rfl (by rw [nF_len]; decide) hS (Or.inl rfl) dX12_init_97 (fun H locs hu hn hS => ?_)
  have hM := hM.putN hu hn
  refine lv_aload_n C.1 C.2.1 dX12_init_100 rfl (lv_at hl 0 rfl) ?_
  refine lv_bipush (v := zI 24) C.1 C.2.1 dX12_init_101 (by decide) ?_
  refine l_newaI C hM hA (n := 24) (by decide) (by decide) (by decide) (Nat.le_of_ble_eq_true rfl) (Nat.le_of_ble_eq_true rfl) hS dX12_init_103 (fun q10 H hM hS => ?_)
  have hM : lW Z (nA o s0) H o (nF (gset (gset (gset (gset (gset (gset (gset (gset (gset (gset (gset g0 0 (.ref q0)) 3 (.ref q1)) 6 (zV (-1))) 11 (.ref q2)) 12 (.ref q3)) 13 (.ref q4)) 14 (.ref q5)) 15 (.ref q6)) 20 (.ref q7)) 22 (.ref q8)) 23 (.ref q9))) [(q0, .inl (Z.2.1 0, (16000, .inl (fun _ => 0)))), (q1, .inr (0, [])), (q2, .inl (Z.2.1 1, (502, .inl (fun _ => 0)))), (q3, .inl (Z.2.1 1, (502, .inl (fun _ => 0)))), (q4, .inl (Z.2.1 1, (502, .inl (fun _ => 0)))), (q5, .inl (Z.2.1 1, (502, .inl (fun _ => 0)))), (q6, .inl (Z.2.1 2, (502, .inr (.inl (fun _ => 0))))), (q7, .inl (Z.2.1 1, (48, .inl (fun _ => 0)))), (q8, .inl (Z.2.1 1, (3000, .inl (fun _ => 0)))), (q9, .inl (Z.2.1 1, (3000, .inl (fun _ => 0)))), (q10, .inl (Z.2.1 1, (24, .inl (fun _ => 0))))] := hM
  refine z_putF C (v := .ref q10) tyX12 (hM.1 0 _ rfl) rfl bi_wsX120 tyX12_ok nmX12 25 (by decide) zw_5_7 rfl rfl hnm rfl rfl rfl (by rw [nF_len]; decide) hS (Or.inl rfl) dX12_init_105 (fun H locs hu hn hS => ?_)
  have hM := hM.putN hu hn
  refine lv_aload_n C.1 C.2.1 dX12_init_108 rfl (lv_at hl 0 rfl) ?_
  refine lv_bipush (v := zI 24) C.1 C.2.1 dX12_init_109 (by decide) ?_
  refine l_newaI C hM hA (n := 24) (by decide) (by decide) (by decide) (Nat.le_of_ble_eq_true rfl) (Nat.le_of_ble_eq_true rfl) hS dX12_init_111 (fun q11 H hM hS => ?_)
  have hM : lW Z (nA o s0) H o (nF (gset (gset (gset (gset (gset (gset (gset (gset (gset (gset (gset (gset g0 0 (.ref q0)) 3 (.ref q1)) 6 (zV (-1))) 11 (.ref q2)) 12 (.ref q3)) 13 (.ref q4)) 14 (.ref q5)) 15 (.ref q6)) 20 (.ref q7)) 22 (.ref q8)) 23 (.ref q9)) 25 (.ref q10))) [(q0, .inl (Z.2.1 0, (16000, .inl (fun _ => 0)))), (q1, .inr (0, [])), (q2, .inl (Z.2.1 1, (502, .inl (fun _ => 0)))), (q3, .inl (Z.2.1 1, (502, .inl (fun _ => 0)))), (q4, .inl (Z.2.1 1, (502, .inl (fun _ => 0)))), (q5, .inl (Z.2.1 1, (502, .inl (fun _ => 0)))), (q6, .inl (Z.2.1 2, (502, .inr (.inl (fun _ => 0))))), (q7, .inl (Z.2.1 1, (48, .inl (fun _ => 0)))), (q8, .inl (Z.2.1 1, (3000, .inl (fun _ => 0)))), (q9, .inl (Z.2.1 1, (3000, .inl (fun _ => 0)))), (q10, .inl (Z.2.1 1, (24, .inl (fun _ => 0)))), (q11, .inl (Z.2.1 1, (24, .inl (fun _ => 0))))] := hM
  refine z_putF C (v := .ref q11) tyX12 (hM.1 0 _ rfl) rfl bi_wsX120 tyX12_ok nmX12 26 (by decide) zw_5_8 rfl rfl hnm rfl rfl rfl (by rw [nF_len]; decide) hS (Or.inl rfl) dX12_init_113 (fun H locs hu hn hS => ?_)
  have hM := hM.putN hu hn
  refine lv_aload_n C.1 C.2.1 dX12_init_116 rfl (lv_at hl 0 rfl) ?_
  refine lv_bipush (v := zI 24) C.1 C.2.1 dX12_init_117 (by decide) ?_
  refine l_newaI C hM hA (n := 24) (by decide) (by decide) (by decide) (Nat.le_of_ble_eq_true rfl) (Nat.le_of_ble_eq_true rfl) hS dX12_init_119 (fun q12 H hM hS => ?_)
  have hM : lW Z (nA o s0) H o (nF (gset (gset (gset (gset (gset (gset (gset (gset (gset (gset (gset (gset (gset g0 0 (.ref q0)) 3 (.ref q1)) 6 (zV (-1))) 11 (.ref q2)) 12 (.ref q3)) 13 (.ref q4)) 14 (.ref q5)) 15 (.ref q6)) 20 (.ref q7)) 22 (.ref q8)) 23 (.ref q9)) 25 (.ref q10)) 26 (.ref q11))) [(q0, .inl (Z.2.1 0, (16000, .inl (fun _ => 0)))), (q1, .inr (0, [])), (q2, .inl (Z.2.1 1, (502, .inl (fun _ => 0)))), (q3, .inl (Z.2.1 1, (502, .inl (fun _ => 0)))), (q4, .inl (Z.2.1 1, (502, .inl (fun _ => 0)))), (q5, .inl (Z.2.1 1, (502, .inl (fun _ => 0)))), (q6, .inl (Z.2.1 2, (502, .inr (.inl (fun _ => 0))))), (q7, .inl (Z.2.1 1, (48, .inl (fun _ => 0)))), (q8, .inl (Z.2.1 1, (3000, .inl (fun _ => 0)))), (q9, .inl (Z.2.1 1, (3000, .inl (fun _ => 0)))), (q10, .inl (Z.2.1 1, (24, .inl (fun _ => 0)))), (q11, .inl (Z.2.1 1, (24, .inl (fun _ => 0)))), (q12, .inl (Z.2.1 1, (24, .inl (fun _ => 0))))] := hM
  refine z_putF C (v := .ref q12) tyX12 (hM.1 0 _ rfl) rfl bi_wsX120 tyX12_ok nmX12 27 (by decide) zw_5_9 rfl rfl hnm rfl rfl rfl (by rw [nF_len]; decide) hS (Or.inl rfl) dX12_init_121 (fun H locs hu hn hS => ?_)
  have hM := hM.putN hu hn
  refine lv_aload_n C.1 C.2.1 dX12_init_124 rfl (lv_at hl 0 rfl) ?_
  refine lv_bipush (v := zI 24) C.1 C.2.1 dX12_init_125 (by decide) ?_
  refine l_newaI C hM hA (n := 24) (by decide) (by decide) (by decide) (Nat.le_of_ble_eq_true rfl) (Nat.le_of_ble_eq_true rfl) hS dX12_init_127 (fun q13 H hM hS => ?_)
  have hM : lW Z (nA o s0) H o (nF (gset (gset (gset (gset (gset (gset (gset (gset (gset (gset (gset (gset (gset (gset g0 0 (.ref q0)) 3 (.ref q1)) 6 (zV (-1))) 11 (.ref q2)) 12 (.ref q3)) 13 (.ref q4)) 14 (.ref q5)) 15 (.ref q6)) 20 (.ref q7)) 22 (.ref q8)) 23 (.ref q9)) 25 (.ref q10)) 26 (.ref q11)) 27 (.ref q12))) [(q0, .inl (Z.2.1 0, (16000, .inl (fun _ => 0)))), (q1, .inr (0, [])), (q2, .inl (Z.2.1 1, (502, .inl (fun _ => 0)))), (q3, .inl (Z.2.1 1, (502, .inl (fun _ => 0)))), (q4, .inl (Z.2.1 1, (502, .inl (fun _ => 0)))), (q5, .inl (Z.2.1 1, (502, .inl (fun _ => 0)))), (q6, .inl (Z.2.1 2, (502, .inr (.inl (fun _ => 0))))), (q7, .inl (Z.2.1 1, (48, .inl (fun _ => 0)))), (q8, .inl (Z.2.1 1, (3000, .inl (fun _ => 0)))), (q9, .inl (Z.2.1 1, (3000, .inl (fun _ => 0)))), (q10, .inl (Z.2.1 1, (24, .inl (fun _ => 0)))), (q11, .inl (Z.2.1 1, (24, .inl (fun _ => 0)))), (q12, .inl (Z.2.1 1, (24, .inl (fun _ => 0)))), (q13, .inl (Z.2.1 1, (24, .inl (fun _ => 0))))] := hM
  refine z_putF C (v := .ref q13) tyX12 (hM.1 0 _ rfl) rfl bi_wsX120 tyX12_ok nmX12 28 (by decide) zw_5_10 rfl rfl hnm rfl rfl rfl (by rw [nF_len]; decide) hS (Or.inl rfl) dX12_init_129 (fun H locs hu hn hS => ?_)
  have hM := hM.putN hu hn
  refine lv_aload_n C.1 C.2.1 dX12_init_132 rfl (lv_at hl 0 rfl) ?_
  refine lv_bipush (v := zI 24) C.1 C.2.1 dX12_init_133 (by decide) ?_
  refine l_newaI C hM hA (n := 24) (by decide) (by decide) (by decide) (Nat.le_of_ble_eq_true rfl) (Nat.le_of_ble_eq_true rfl) hS dX12_init_135 (fun q14 H hM hS => ?_)
  have hM : lW Z (nA o s0) H o (nF (gset (gset (gset (gset (gset (gset (gset (gset (gset (gset (gset (gset (gset (gset (gset g0 0 (.ref q0)) 3 (.ref q1)) 6 (zV (-1))) 11 (.ref q2)) 12 (.ref q3)) 13 (.ref q4)) 14 (.ref q5)) 15 (.ref q6)) 20 (.ref q7)) 22 (.ref q8)) 23 (.ref q9)) 25 (.ref q10)) 26 (.ref q11)) 27 (.ref q12)) 28 (.ref q13))) [(q0, .inl (Z.2.1 0, (16000, .inl (fun _ => 0)))), (q1, .inr (0, [])), (q2, .inl (Z.2.1 1, (502, .inl (fun _ => 0)))), (q3, .inl (Z.2.1 1, (502, .inl (fun _ => 0)))), (q4, .inl (Z.2.1 1, (502, .inl (fun _ => 0)))), (q5, .inl (Z.2.1 1, (502, .inl (fun _ => 0)))), (q6, .inl (Z.2.1 2, (502, .inr (.inl (fun _ => 0))))), (q7, .inl (Z.2.1 1, (48, .inl (fun _ => 0)))), (q8, .inl (Z.2.1 1, (3000, .inl (fun _ => 0)))), (q9, .inl (Z.2.1 1, (3000, .inl (fun _ => 0)))), (q10, .inl (Z.2.1 1, (24, .inl (fun _ => 0)))), (q11, .inl (Z.2.1 1, (24, .inl (fun _ => 0)))), (q12, .inl (Z.2.1 1, (24, .inl (fun _ => 0)))), (q13, .inl (Z.2.1 1, (24, .inl (fun _ => 0)))), (q14, .inl (Z.2.1 1, (24, .inl (fun _ => 0))))] := hM
  refine z_putF C (v := .ref q14) tyX12 (hM.1 0 _ rfl) rfl bi_wsX120 tyX12_ok nmX12 29 (by decide) zw_5_11 rfl rfl hnm rfl rfl rfl (by rw [nF_len]; decide) hS (Or.inl rfl) dX12_init_137 (fun H locs hu hn hS => ?_)
  have hM := hM.putN hu hn
  refine lv_aload_n C.1 C.2.1 dX12_init_140 rfl (lv_at hl 0 rfl) ?_
  refine lv_bipush (v := zI 24) C.1 C.2.1 dX12_init_141 (by decide) ?_
  refine l_newaI C hM hA (n := 24) (by decide) (by decide) (by decide) (Nat.le_of_ble_eq_true rfl) (Nat.le_of_ble_eq_true rfl) hS dX12_init_143 (fun q15 H hM hS => ?_)
  have hM : lW Z (nA o s0) H o (nF (gset (gset (gset (gset (gset (gset (gset (gset (gset (gset (gset (gset (gset (gset (gset (gset g0 0 (.ref q0)) 3 (.ref q1)) 6 (zV (-1))) 11 (.ref q2)) 12 (.ref q3)) 13 (.ref q4)) 14 (.ref q5)) 15 (.ref q6)) 20 (.ref q7)) 22 (.ref q8)) 23 (.ref q9)) 25 (.ref q10)) 26 (.ref q11)) 27 (.ref q12)) 28 (.ref q13)) 29 (.ref q14))) [(q0, .inl (Z.2.1 0, (16000, .inl (fun _ => 0)))), (q1, .inr (0, [])), (q2, .inl (Z.2.1 1, (502, .inl (fun _ => 0)))), (q3, .inl (Z.2.1 1, (502, .inl (fun _ => 0)))), (q4, .inl (Z.2.1 1, (502, .inl (fun _ => 0)))), (q5, .inl (Z.2.1 1, (502, .inl (fun _ => 0)))), (q6, .inl (Z.2.1 2, (502, .inr (.inl (fun _ => 0))))), (q7, .inl (Z.2.1 1, (48, .inl (fun _ => 0)))), (q8, .inl (Z.2.1 1, (3000, .inl (fun _ => 0)))), (q9, .inl (Z.2.1 1, (3000, .inl (fun _ => 0)))), (q10, .inl (Z.2.1 1, (24, .inl (fun _ => 0)))), (q11, .inl (Z.2.1 1, (24, .inl (fun _ => 0)))), (q12, .inl (Z.2.1 1, (24, .inl (fun _ => 0)))), (q13, .inl (Z.2.1 1, (24, .inl (fun _ => 0)))), (q14, .inl (Z.2.1 1, (24, .inl (fun _ => 0)))), (q15, .inl (Z.2.1 1, (24, .inl (fun _ => 0))))] := hM
  refine z_putF C (v := .ref q15) tyX12 (hM.1 0 _ rfl) rfl bi_wsX120 tyX12_ok nmX12 30 (by decide) zw_5_12 rfl rfl hnm rfl rfl rfl (by rw [nF_len]; decide) hS (Or.inl rfl) dX12_init_145 (fun H locs hu hn hS => ?_)
  have hM := hM.putN hu hn
  refine lv_aload_n C.1 C.2.1 dX12_init_148 rfl (lv_at hl 0 rfl) ?_
  refine lv_sipush (v := zI 1201) C.1 C.2.1 dX12_init_149 (by decide) ?_
  refine l_newaI C hM hA (n := 1201) (by decide) (by decide) (by decide) (Nat.le_of_ble_eq_true rfl) (Nat.le_of_ble_eq_true rfl) hS dX12_init_152 (fun q16 H hM hS => ?_)
  have hM : lW Z (nA o s0) H o (nF (gset (gset (gset (gset (gset (gset (gset (gset (gset (gset (gset (gset (gset (gset (gset (gset (gset g0 0 (.ref q0)) 3 (.ref q1)) 6 (zV (-1))) 11 (.ref q2)) 12 (.ref q3)) 13 (.ref q4)) 14 (.ref q5)) 15 (.ref q6)) 20 (.ref q7)) 22 (.ref q8)) 23 (.ref q9)) 25 (.ref q10)) 26 (.ref q11)) 27 (.ref q12)) 28 (.ref q13)) 29 (.ref q14)) 30 (.ref q15))) [(q0, .inl (Z.2.1 0, (16000, .inl (fun _ => 0)))), (q1, .inr (0, [])), (q2, .inl (Z.2.1 1, (502, .inl (fun _ => 0)))), (q3, .inl (Z.2.1 1, (502, .inl (fun _ => 0)))), (q4, .inl (Z.2.1 1, (502, .inl (fun _ => 0)))), (q5, .inl (Z.2.1 1, (502, .inl (fun _ => 0)))), (q6, .inl (Z.2.1 2, (502, .inr (.inl (fun _ => 0))))), (q7, .inl (Z.2.1 1, (48, .inl (fun _ => 0)))), (q8, .inl (Z.2.1 1, (3000, .inl (fun _ => 0)))), (q9, .inl (Z.2.1 1, (3000, .inl (fun _ => 0)))), (q10, .inl (Z.2.1 1, (24, .inl (fun _ => 0)))), (q11, .inl (Z.2.1 1, (24, .inl (fun _ => 0)))), (q12, .inl (Z.2.1 1, (24, .inl (fun _ => 0)))), (q13, .inl (Z.2.1 1, (24, .inl (fun _ => 0)))), (q14, .inl (Z.2.1 1, (24, .inl (fun _ => 0)))), (q15, .inl (Z.2.1 1, (24, .inl (fun _ => 0)))), (q16, .inl (Z.2.1 1, (1201, .inl (fun _ => 0))))] := hM
  refine z_putF C (v := .ref q16) tyX12 (hM.1 0 _ rfl) rfl bi_wsX120 tyX12_ok nmX12 34 (by decide) zw_5_13 rfl rfl hnm rfl rfl rfl (by rw [nF_len]; decide) hS (Or.inl rfl) dX12_init_154 (fun H locs hu hn hS => ?_)
  have hM := hM.putN hu hn
  refine lv_aload_n C.1 C.2.1 dX12_init_157 rfl (lv_at hl 0 rfl) ?_
  refine lv_ldc (v := zI 86400) C.1 C.2.1 C.2.2.2.1 (C.2.2.2.2.1 _ zw_5_14) dX12_init_158 ?_
  refine l_newaI C hM hA (n := 86400) (by decide) (by decide) (by decide) (Nat.le_of_ble_eq_true rfl) (Nat.le_of_ble_eq_true rfl) hS dX12_init_160 (fun q17 H hM hS => ?_)
  have hM : lW Z (nA o s0) H o (nF (gset (gset (gset (gset (gset (gset (gset (gset (gset (gset (gset (gset (gset (gset (gset (gset (gset (gset g0 0 (.ref q0)) 3 (.ref q1)) 6 (zV (-1))) 11 (.ref q2)) 12 (.ref q3)) 13 (.ref q4)) 14 (.ref q5)) 15 (.ref q6)) 20 (.ref q7)) 22 (.ref q8)) 23 (.ref q9)) 25 (.ref q10)) 26 (.ref q11)) 27 (.ref q12)) 28 (.ref q13)) 29 (.ref q14)) 30 (.ref q15)) 34 (.ref q16))) [(q0, .inl (Z.2.1 0, (16000, .inl (fun _ => 0)))), (q1, .inr (0, [])), (q2, .inl (Z.2.1 1, (502, .inl (fun _ => 0)))), (q3, .inl (Z.2.1 1, (502, .inl (fun _ => 0)))), (q4, .inl (Z.2.1 1, (502, .inl (fun _ => 0)))), (q5, .inl (Z.2.1 1, (502, .inl (fun _ => 0)))), (q6, .inl (Z.2.1 2, (502, .inr (.inl (fun _ => 0))))), (q7, .inl (Z.2.1 1, (48, .inl (fun _ => 0)))), (q8, .inl (Z.2.1 1, (3000, .inl (fun _ => 0)))), (q9, .inl (Z.2.1 1, (3000, .inl (fun _ => 0)))), (q10, .inl (Z.2.1 1, (24, .inl (fun _ => 0)))), (q11, .inl (Z.2.1 1, (24, .inl (fun _ => 0)))), (q12, .inl (Z.2.1 1, (24, .inl (fun _ => 0)))), (q13, .inl (Z.2.1 1, (24, .inl (fun _ => 0)))), (q14, .inl (Z.2.1 1, (24, .inl (fun _ => 0)))), (q15, .inl (Z.2.1 1, (24, .inl (fun _ => 0)))), (q16, .inl (Z.2.1 1, (1201, .inl (fun _ => 0)))), (q17, .inl (Z.2.1 1, (86400, .inl (fun _ => 0))))] := hM
  refine z_putF C (v := .ref q17) tyX12 (hM.1 0 _ rfl) rfl bi_wsX120 tyX12_ok nmX12 36 (by decide) zw_5_15 rfl rfl hnm rfl rfl rfl (by rw [nF_len]; decide) hS (Or.inl rfl) dX12_init_162 (fun H locs hu hn hS => ?_)
  have hM := hM.putN hu hn
  refine lv_aload_n C.1 C.2.1 dX12_init_165 rfl (lv_at hl 0 rfl) ?_
  refine lv_ldc (v := zI 40000) C.1 C.2.1 C.2.2.2.1 (C.2.2.2.2.1 _ zw_5_16) dX12_init_166 ?_
  refine l_newaI C hM hA (n := 40000) (by decide) (by decide) (by decide) (Nat.le_of_ble_eq_true rfl) (Nat.le_of_ble_eq_true rfl) hS dX12_init_168 (fun q18 H hM hS => ?_)
  have hM : lW Z (nA o s0) H o (nF (gset (gset (gset (gset (gset (gset (gset (gset (gset (gset (gset (gset (gset (gset (gset (gset (gset (gset (gset g0 0 (.ref q0)) 3 (.ref q1)) 6 (zV (-1))) 11 (.ref q2)) 12 (.ref q3)) 13 (.ref q4)) 14 (.ref q5)) 15 (.ref q6)) 20 (.ref q7)) 22 (.ref q8)) 23 (.ref q9)) 25 (.ref q10)) 26 (.ref q11)) 27 (.ref q12)) 28 (.ref q13)) 29 (.ref q14)) 30 (.ref q15)) 34 (.ref q16)) 36 (.ref q17))) [(q0, .inl (Z.2.1 0, (16000, .inl (fun _ => 0)))), (q1, .inr (0, [])), (q2, .inl (Z.2.1 1, (502, .inl (fun _ => 0)))), (q3, .inl (Z.2.1 1, (502, .inl (fun _ => 0)))), (q4, .inl (Z.2.1 1, (502, .inl (fun _ => 0)))), (q5, .inl (Z.2.1 1, (502, .inl (fun _ => 0)))), (q6, .inl (Z.2.1 2, (502, .inr (.inl (fun _ => 0))))), (q7, .inl (Z.2.1 1, (48, .inl (fun _ => 0)))), (q8, .inl (Z.2.1 1, (3000, .inl (fun _ => 0)))), (q9, .inl (Z.2.1 1, (3000, .inl (fun _ => 0)))), (q10, .inl (Z.2.1 1, (24, .inl (fun _ => 0)))), (q11, .inl (Z.2.1 1, (24, .inl (fun _ => 0)))), (q12, .inl (Z.2.1 1, (24, .inl (fun _ => 0)))), (q13, .inl (Z.2.1 1, (24, .inl (fun _ => 0)))), (q14, .inl (Z.2.1 1, (24, .inl (fun _ => 0)))), (q15, .inl (Z.2.1 1, (24, .inl (fun _ => 0)))), (q16, .inl (Z.2.1 1, (1201, .inl (fun _ => 0)))), (q17, .inl (Z.2.1 1, (86400, .inl (fun _ => 0)))), (q18, .inl (Z.2.1 1, (40000, .inl (fun _ => 0))))] := hM
  refine z_putF C (v := .ref q18) tyX12 (hM.1 0 _ rfl) rfl bi_wsX120 tyX12_ok nmX12 38 (by decide) zw_5_17 rfl rfl hnm rfl rfl rfl (by rw [nF_len]; decide) hS (Or.inl rfl) dX12_init_170 (fun H locs hu hn hS => ?_)
  have hM := hM.putN hu hn
  refine lv_aload_n C.1 C.2.1 dX12_init_173 rfl (lv_at hl 0 rfl) ?_
  refine lv_bipush (v := zI 24) C.1 C.2.1 dX12_init_174 (by decide) ?_
  refine l_newaI C hM hA (n := 24) (by decide) (by decide) (by decide) (Nat.le_of_ble_eq_true rfl) (Nat.le_of_ble_eq_true rfl) hS dX12_init_176 (fun q19 H hM hS => ?_)
  have hM : lW Z (nA o s0) H o (nF (gset (gset (gset (gset (gset (gset (gset (gset (gset (gset (gset (gset (gset (gset (gset (gset (gset (gset (gset (gset g0 0 (.ref q0)) 3 (.ref q1)) 6 (zV (-1))) 11 (.ref q2)) 12 (.ref q3)) 13 (.ref q4)) 14 (.ref q5)) 15 (.ref q6)) 20 (.ref q7)) 22 (.ref q8)) 23 (.ref q9)) 25 (.ref q10)) 26 (.ref q11)) 27 (.ref q12)) 28 (.ref q13)) 29 (.ref q14)) 30 (.ref q15)) 34 (.ref q16)) 36 (.ref q17)) 38 (.ref q18))) [(q0, .inl (Z.2.1 0, (16000, .inl (fun _ => 0)))), (q1, .inr (0, [])), (q2, .inl (Z.2.1 1, (502, .inl (fun _ => 0)))), (q3, .inl (Z.2.1 1, (502, .inl (fun _ => 0)))), (q4, .inl (Z.2.1 1, (502, .inl (fun _ => 0)))), (q5, .inl (Z.2.1 1, (502, .inl (fun _ => 0)))), (q6, .inl (Z.2.1 2, (502, .inr (.inl (fun _ => 0))))), (q7, .inl (Z.2.1 1, (48, .inl (fun _ => 0)))), (q8, .inl (Z.2.1 1, (3000, .inl (fun _ => 0)))), (q9, .inl (Z.2.1 1, (3000, .inl (fun _ => 0)))), (q10, .inl (Z.2.1 1, (24, .inl (fun _ => 0)))), (q11, .inl (Z.2.1 1, (24, .inl (fun _ => 0)))), (q12, .inl (Z.2.1 1, (24, .inl (fun _ => 0)))), (q13, .inl (Z.2.1 1, (24, .inl (fun _ => 0)))), (q14, .inl (Z.2.1 1, (24, .inl (fun _ => 0)))), (q15, .inl (Z.2.1 1, (24, .inl (fun _ => 0)))), (q16, .inl (Z.2.1 1, (1201, .inl (fun _ => 0)))), (q17, .inl (Z.2.1 1, (86400, .inl (fun _ => 0)))), (q18, .inl (Z.2.1 1, (40000, .inl (fun _ => 0)))), (q19, .inl (Z.2.1 1, (24, .inl (fun _ => 0))))] := hM
  refine z_putF C (v := .ref q19) tyX12 (hM.1 0 _ rfl) rfl bi_wsX120 tyX12_ok nmX12 40 (by decide) zw_5_18 rfl rfl hnm rfl rfl rfl (by rw [nF_len]; decide) hS (Or.inl rfl) dX12_init_178 (fun H locs hu hn hS => ?_)
  have hM := hM.putN hu hn
  refine lv_aload_n C.1 C.2.1 dX12_init_181 rfl (lv_at hl 0 rfl) ?_
  refine lv_bipush (v := zI 24) C.1 C.2.1 dX12_init_182 (by decide) ?_
  refine l_newaI C hM hA (n := 24) (by decide) (by decide) (by decide) (Nat.le_of_ble_eq_true rfl) (Nat.le_of_ble_eq_true rfl) hS dX12_init_184 (fun q20 H hM hS => ?_)
  have hM : lW Z (nA o s0) H o (nF (gset (gset (gset (gset (gset (gset (gset (gset (gset (gset (gset (gset (gset (gset (gset (gset (gset (gset (gset (gset (gset g0 0 (.ref q0)) 3 (.ref q1)) 6 (zV (-1))) 11 (.ref q2)) 12 (.ref q3)) 13 (.ref q4)) 14 (.ref q5)) 15 (.ref q6)) 20 (.ref q7)) 22 (.ref q8)) 23 (.ref q9)) 25 (.ref q10)) 26 (.ref q11)) 27 (.ref q12)) 28 (.ref q13)) 29 (.ref q14)) 30 (.ref q15)) 34 (.ref q16)) 36 (.ref q17)) 38 (.ref q18)) 40 (.ref q19))) [(q0, .inl (Z.2.1 0, (16000, .inl (fun _ => 0)))), (q1, .inr (0, [])), (q2, .inl (Z.2.1 1, (502, .inl (fun _ => 0)))), (q3, .inl (Z.2.1 1, (502, .inl (fun _ => 0)))), (q4, .inl (Z.2.1 1, (502, .inl (fun _ => 0)))), (q5, .inl (Z.2.1 1, (502, .inl (fun _ => 0)))), (q6, .inl (Z.2.1 2, (502, .inr (.inl (fun _ => 0))))), (q7, .inl (Z.2.1 1, (48, .inl (fun _ => 0)))), (q8, .inl (Z.2.1 1, (3000, .inl (fun _ => 0)))), (q9, .inl (Z.2.1 1, (3000, .inl (fun _ => 0)))), (q10, .inl (Z.2.1 1, (24, .inl (fun _ => 0)))), (q11, .inl (Z.2.1 1, (24, .inl (fun _ => 0)))), (q12, .inl (Z.2.1 1, (24, .inl (fun _ => 0)))), (q13, .inl (Z.2.1 1, (24, .inl (fun _ => 0)))), (q14, .inl (Z.2.1 1, (24, .inl (fun _ => 0)))), (q15, .inl (Z.2.1 1, (24, .inl (fun _ => 0)))), (q16, .inl (Z.2.1 1, (1201, .inl (fun _ => 0)))), (q17, .inl (Z.2.1 1, (86400, .inl (fun _ => 0)))), (q18, .inl (Z.2.1 1, (40000, .inl (fun _ => 0)))), (q19, .inl (Z.2.1 1, (24, .inl (fun _ => 0)))), (q20, .inl (Z.2.1 1, (24, .inl (fun _ => 0))))] := hM
  refine z_putF C (v := .ref q20) tyX12 (hM.1 0 _ rfl) rfl bi_wsX120 tyX12_ok nmX12 41 (by decide) zw_5_19 rfl rfl hnm rfl rfl rfl (by rw [nF_len]; decide) hS (Or.inl rfl) dX12_init_186 (fun H locs hu hn hS => ?_)
  have hM := hM.putN hu hn
  refine lv_aload_n C.1 C.2.1 dX12_init_189 rfl (lv_at hl 0 rfl) ?_
  refine lv_bipush (v := zI 24) C.1 C.2.1 dX12_init_190 (by decide) ?_
  refine l_newaI C hM hA (n := 24) (by decide) (by decide) (by decide) (Nat.le_of_ble_eq_true rfl) (Nat.le_of_ble_eq_true rfl) hS dX12_init_192 (fun q21 H hM hS => ?_)
  have hM : lW Z (nA o s0) H o (nF (gset (gset (gset (gset (gset (gset (gset (gset (gset (gset (gset (gset (gset (gset (gset (gset (gset (gset (gset (gset (gset (gset g0 0 (.ref q0)) 3 (.ref q1)) 6 (zV (-1))) 11 (.ref q2)) 12 (.ref q3)) 13 (.ref q4)) 14 (.ref q5)) 15 (.ref q6)) 20 (.ref q7)) 22 (.ref q8)) 23 (.ref q9)) 25 (.ref q10)) 26 (.ref q11)) 27 (.ref q12)) 28 (.ref q13)) 29 (.ref q14)) 30 (.ref q15)) 34 (.ref q16)) 36 (.ref q17)) 38 (.ref q18)) 40 (.ref q19)) 41 (.ref q20))) [(q0, .inl (Z.2.1 0, (16000, .inl (fun _ => 0)))), (q1, .inr (0, [])), (q2, .inl (Z.2.1 1, (502, .inl (fun _ => 0)))), (q3, .inl (Z.2.1 1, (502, .inl (fun _ => 0)))), (q4, .inl (Z.2.1 1, (502, .inl (fun _ => 0)))), (q5, .inl (Z.2.1 1, (502, .inl (fun _ => 0)))), (q6, .inl (Z.2.1 2, (502, .inr (.inl (fun _ => 0))))), (q7, .inl (Z.2.1 1, (48, .inl (fun _ => 0)))), (q8, .inl (Z.2.1 1, (3000, .inl (fun _ => 0)))), (q9, .inl (Z.2.1 1, (3000, .inl (fun _ => 0)))), (q10, .inl (Z.2.1 1, (24, .inl (fun _ => 0)))), (q11, .inl (Z.2.1 1, (24, .inl (fun _ => 0)))), (q12, .inl (Z.2.1 1, (24, .inl (fun _ => 0)))), (q13, .inl (Z.2.1 1, (24, .inl (fun _ => 0)))), (q14, .inl (Z.2.1 1, (24, .inl (fun _ => 0)))), (q15, .inl (Z.2.1 1, (24, .inl (fun _ => 0)))), (q16, .inl (Z.2.1 1, (1201, .inl (fun _ => 0)))), (q17, .inl (Z.2.1 1, (86400, .inl (fun _ => 0)))), (q18, .inl (Z.2.1 1, (40000, .inl (fun _ => 0)))), (q19, .inl (Z.2.1 1, (24, .inl (fun _ => 0)))), (q20, .inl (Z.2.1 1, (24, .inl (fun _ => 0)))), (q21, .inl (Z.2.1 1, (24, .inl (fun _ => 0))))] := hM
  refine z_putF C (v := .ref q21) tyX12 (hM.1 0 _ rfl) rfl bi_wsX120 tyX12_ok nmX12 47 (by decide) zw_5_20 rfl rfl hnm rfl rfl rfl (by rw [nF_len]; decide) hS (Or.inl rfl) dX12_init_194 (fun H locs hu hn hS => ?_)
  have hM := hM.putN hu hn
  refine lv_aload_n C.1 C.2.1 dX12_init_197 rfl (lv_at hl 0 rfl) ?_
  refine lv_sipush (v := zI 144) C.1 C.2.1 dX12_init_198 (by decide) ?_
  refine l_newaI C hM hA (n := 144) (by decide) (by decide) (by decide) (Nat.le_of_ble_eq_true rfl) (Nat.le_of_ble_eq_true rfl) hS dX12_init_201 (fun q22 H hM hS => ?_)
  have hM : lW Z (nA o s0) H o (nF (gset (gset (gset (gset (gset (gset (gset (gset (gset (gset (gset (gset (gset (gset (gset (gset (gset (gset (gset (gset (gset (gset (gset g0 0 (.ref q0)) 3 (.ref q1)) 6 (zV (-1))) 11 (.ref q2)) 12 (.ref q3)) 13 (.ref q4)) 14 (.ref q5)) 15 (.ref q6)) 20 (.ref q7)) 22 (.ref q8)) 23 (.ref q9)) 25 (.ref q10)) 26 (.ref q11)) 27 (.ref q12)) 28 (.ref q13)) 29 (.ref q14)) 30 (.ref q15)) 34 (.ref q16)) 36 (.ref q17)) 38 (.ref q18)) 40 (.ref q19)) 41 (.ref q20)) 47 (.ref q21))) [(q0, .inl (Z.2.1 0, (16000, .inl (fun _ => 0)))), (q1, .inr (0, [])), (q2, .inl (Z.2.1 1, (502, .inl (fun _ => 0)))), (q3, .inl (Z.2.1 1, (502, .inl (fun _ => 0)))), (q4, .inl (Z.2.1 1, (502, .inl (fun _ => 0)))), (q5, .inl (Z.2.1 1, (502, .inl (fun _ => 0)))), (q6, .inl (Z.2.1 2, (502, .inr (.inl (fun _ => 0))))), (q7, .inl (Z.2.1 1, (48, .inl (fun _ => 0)))), (q8, .inl (Z.2.1 1, (3000, .inl (fun _ => 0)))), (q9, .inl (Z.2.1 1, (3000, .inl (fun _ => 0)))), (q10, .inl (Z.2.1 1, (24, .inl (fun _ => 0)))), (q11, .inl (Z.2.1 1, (24, .inl (fun _ => 0)))), (q12, .inl (Z.2.1 1, (24, .inl (fun _ => 0)))), (q13, .inl (Z.2.1 1, (24, .inl (fun _ => 0)))), (q14, .inl (Z.2.1 1, (24, .inl (fun _ => 0)))), (q15, .inl (Z.2.1 1, (24, .inl (fun _ => 0)))), (q16, .inl (Z.2.1 1, (1201, .inl (fun _ => 0)))), (q17, .inl (Z.2.1 1, (86400, .inl (fun _ => 0)))), (q18, .inl (Z.2.1 1, (40000, .inl (fun _ => 0)))), (q19, .inl (Z.2.1 1, (24, .inl (fun _ => 0)))), (q20, .inl (Z.2.1 1, (24, .inl (fun _ => 0)))), (q21, .inl (Z.2.1 1, (24, .inl (fun _ => 0)))), (q22, .inl (Z.2.1 1, (144, .inl (fun _ => 0))))] := hM
  refine z_putF C (v := .ref q22) tyX12 (hM.1 0 _ rfl) rfl bi_wsX120 tyX12_ok nmX12 48 (by decide) zw_5_21 rfl rfl hnm rfl rfl rfl (by rw [nF_len]; decide) hS (Or.inl rfl) dX12_init_203 (fun H locs hu hn hS => ?_)
  have hM := hM.putN hu hn
  refine lv_aload_n C.1 C.2.1 dX12_init_206 rfl (lv_at hl 0 rfl) ?_
  refine lv_bipush (v := zI 24) C.1 C.2.1 dX12_init_207 (by decide) ?_
  refine l_newaI C hM hA (n := 24) (by decide) (by decide) (by decide) (Nat.le_of_ble_eq_true rfl) (Nat.le_of_ble_eq_true rfl) hS dX12_init_209 (fun q23 H hM hS => ?_)
  have hM : lW Z (nA o s0) H o (nF (gset (gset (gset (gset (gset (gset (gset (gset (gset (gset (gset (gset (gset (gset (gset (gset (gset (gset (gset (gset (gset (gset (gset (gset g0 0 (.ref q0)) 3 (.ref q1)) 6 (zV (-1))) 11 (.ref q2)) 12 (.ref q3)) 13 (.ref q4)) 14 (.ref q5)) 15 (.ref q6)) 20 (.ref q7)) 22 (.ref q8)) 23 (.ref q9)) 25 (.ref q10)) 26 (.ref q11)) 27 (.ref q12)) 28 (.ref q13)) 29 (.ref q14)) 30 (.ref q15)) 34 (.ref q16)) 36 (.ref q17)) 38 (.ref q18)) 40 (.ref q19)) 41 (.ref q20)) 47 (.ref q21)) 48 (.ref q22))) [(q0, .inl (Z.2.1 0, (16000, .inl (fun _ => 0)))), (q1, .inr (0, [])), (q2, .inl (Z.2.1 1, (502, .inl (fun _ => 0)))), (q3, .inl (Z.2.1 1, (502, .inl (fun _ => 0)))), (q4, .inl (Z.2.1 1, (502, .inl (fun _ => 0)))), (q5, .inl (Z.2.1 1, (502, .inl (fun _ => 0)))), (q6, .inl (Z.2.1 2, (502, .inr (.inl (fun _ => 0))))), (q7, .inl (Z.2.1 1, (48, .inl (fun _ => 0)))), (q8, .inl (Z.2.1 1, (3000, .inl (fun _ => 0)))), (q9, .inl (Z.2.1 1, (3000, .inl (fun _ => 0)))), (q10, .inl (Z.2.1 1, (24, .inl (fun _ => 0)))), (q11, .inl (Z.2.1 1, (24, .inl (fun _ => 0)))), (q12, .inl (Z.2.1 1, (24, .inl (fun _ => 0)))), (q13, .inl (Z.2.1 1, (24, .inl (fun _ => 0)))), (q14, .inl (Z.2.1 1, (24, .inl (fun _ => 0)))), (q15, .inl (Z.2.1 1, (24, .inl (fun _ => 0)))), (q16, .inl (Z.2.1 1, (1201, .inl (fun _ => 0)))), (q17, .inl (Z.2.1 1, (86400, .inl (fun _ => 0)))), (q18, .inl (Z.2.1 1, (40000, .inl (fun _ => 0)))), (q19, .inl (Z.2.1 1, (24, .inl (fun _ => 0)))), (q20, .inl (Z.2.1 1, (24, .inl (fun _ => 0)))), (q21, .inl (Z.2.1 1, (24, .inl (fun _ => 0)))), (q22, .inl (Z.2.1 1, (144, .inl (fun _ => 0)))), (q23, .inl (Z.2.1 1, (24, .inl (fun _ => 0))))] := hM
  refine z_putF C (v := .ref q23) tyX12 (hM.1 0 _ rfl) rfl bi_wsX120 tyX12_ok nmX12 49 (by decide) zw_5_22 rfl rfl hnm rfl rfl rfl (by rw [nF_len]; decide) hS (Or.inl rfl) dX12_init_211 (fun H locs hu hn hS => ?_)
  have hM := hM.putN hu hn
  refine lv_aload_n C.1 C.2.1 dX12_init_214 rfl (lv_at hl 0 rfl) ?_
  refine lv_ldc (v := zI 86400) C.1 C.2.1 C.2.2.2.1 (C.2.2.2.2.1 _ zw_5_14) dX12_init_215 ?_
  refine l_newaI C hM hA (n := 86400) (by decide) (by decide) (by decide) (Nat.le_of_ble_eq_true rfl) (Nat.le_of_ble_eq_true rfl) hS dX12_init_217 (fun q24 H hM hS => ?_)
  have hM : lW Z (nA o s0) H o (nF (gset (gset (gset (gset (gset (gset (gset (gset (gset (gset (gset (gset (gset (gset (gset (gset (gset (gset (gset (gset (gset (gset (gset (gset (gset g0 0 (.ref q0)) 3 (.ref q1)) 6 (zV (-1))) 11 (.ref q2)) 12 (.ref q3)) 13 (.ref q4)) 14 (.ref q5)) 15 (.ref q6)) 20 (.ref q7)) 22 (.ref q8)) 23 (.ref q9)) 25 (.ref q10)) 26 (.ref q11)) 27 (.ref q12)) 28 (.ref q13)) 29 (.ref q14)) 30 (.ref q15)) 34 (.ref q16)) 36 (.ref q17)) 38 (.ref q18)) 40 (.ref q19)) 41 (.ref q20)) 47 (.ref q21)) 48 (.ref q22)) 49 (.ref q23))) [(q0, .inl (Z.2.1 0, (16000, .inl (fun _ => 0)))), (q1, .inr (0, [])), (q2, .inl (Z.2.1 1, (502, .inl (fun _ => 0)))), (q3, .inl (Z.2.1 1, (502, .inl (fun _ => 0)))), (q4, .inl (Z.2.1 1, (502, .inl (fun _ => 0)))), (q5, .inl (Z.2.1 1, (502, .inl (fun _ => 0)))), (q6, .inl (Z.2.1 2, (502, .inr (.inl (fun _ => 0))))), (q7, .inl (Z.2.1 1, (48, .inl (fun _ => 0)))), (q8, .inl (Z.2.1 1, (3000, .inl (fun _ => 0)))), (q9, .inl (Z.2.1 1, (3000, .inl (fun _ => 0)))), (q10, .inl (Z.2.1 1, (24, .inl (fun _ => 0)))), (q11, .inl (Z.2.1 1, (24, .inl (fun _ => 0)))), (q12, .inl (Z.2.1 1, (24, .inl (fun _ => 0)))), (q13, .inl (Z.2.1 1, (24, .inl (fun _ => 0)))), (q14, .inl (Z.2.1 1, (24, .inl (fun _ => 0)))), (q15, .inl (Z.2.1 1, (24, .inl (fun _ => 0)))), (q16, .inl (Z.2.1 1, (1201, .inl (fun _ => 0)))), (q17, .inl (Z.2.1 1, (86400, .inl (fun _ => 0)))), (q18, .inl (Z.2.1 1, (40000, .inl (fun _ => 0)))), (q19, .inl (Z.2.1 1, (24, .inl (fun _ => 0)))), (q20, .inl (Z.2.1 1, (24, .inl (fun _ => 0)))), (q21, .inl (Z.2.1 1, (24, .inl (fun _ => 0)))), (q22, .inl (Z.2.1 1, (144, .inl (fun _ => 0)))), (q23, .inl (Z.2.1 1, (24, .inl (fun _ => 0)))), (q24, .inl (Z.2.1 1, (86400, .inl (fun _ => 0))))] := hM
  refine z_putF C (v := .ref q24) tyX12 (hM.1 0 _ rfl) rfl bi_wsX120 tyX12_ok nmX12 50 (by decide) zw_5_23 rfl rfl hnm rfl rfl rfl (by rw [nF_len]; decide) hS (Or.inl rfl) dX12_init_219 (fun H locs hu hn hS => ?_)
  have hM := hM.putN hu hn
  refine lv_aload_n C.1 C.2.1 dX12_init_222 rfl (lv_at hl 0 rfl) ?_
  refine lv_ldc (v := zI 40000) C.1 C.2.1 C.2.2.2.1 (C.2.2.2.2.1 _ zw_5_16) dX12_init_223 ?_
  refine l_newaI C hM hA (n := 40000) (by decide) (by decide) (by decide) (Nat.le_of_ble_eq_true rfl) (Nat.le_of_ble_eq_true rfl) hS dX12_init_225 (fun q25 H hM hS => ?_)
  have hM : lW Z (nA o s0) H o (nF (gset (gset (gset (gset (gset (gset (gset (gset (gset (gset (gset (gset (gset (gset (gset (gset (gset (gset (gset (gset (gset (gset (gset (gset (gset (gset g0 0 (.ref q0)) 3 (.ref q1)) 6 (zV (-1))) 11 (.ref q2)) 12 (.ref q3)) 13 (.ref q4)) 14 (.ref q5)) 15 (.ref q6)) 20 (.ref q7)) 22 (.ref q8)) 23 (.ref q9)) 25 (.ref q10)) 26 (.ref q11)) 27 (.ref q12)) 28 (.ref q13)) 29 (.ref q14)) 30 (.ref q15)) 34 (.ref q16)) 36 (.ref q17)) 38 (.ref q18)) 40 (.ref q19)) 41 (.ref q20)) 47 (.ref q21)) 48 (.ref q22)) 49 (.ref q23)) 50 (.ref q24))) [(q0, .inl (Z.2.1 0, (16000, .inl (fun _ => 0)))), (q1, .inr (0, [])), (q2, .inl (Z.2.1 1, (502, .inl (fun _ => 0)))), (q3, .inl (Z.2.1 1, (502, .inl (fun _ => 0)))), (q4, .inl (Z.2.1 1, (502, .inl (fun _ => 0)))), (q5, .inl (Z.2.1 1, (502, .inl (fun _ => 0)))), (q6, .inl (Z.2.1 2, (502, .inr (.inl (fun _ => 0))))), (q7, .inl (Z.2.1 1, (48, .inl (fun _ => 0)))), (q8, .inl (Z.2.1 1, (3000, .inl (fun _ => 0)))), (q9, .inl (Z.2.1 1, (3000, .inl (fun _ => 0)))), (q10, .inl (Z.2.1 1, (24, .inl (fun _ => 0)))), (q11, .inl (Z.2.1 1, (24, .inl (fun _ => 0)))), (q12, .inl (Z.2.1 1, (24, .inl (fun _ => 0)))), (q13, .inl (Z.2.1 1, (24, .inl (fun _ => 0)))), (q14, .inl (Z.2.1 1, (24, .inl (fun _ => 0)))), (q15, .inl (Z.2.1 1, (24, .inl (fun _ => 0)))), (q16, .inl (Z.2.1 1, (1201, .inl (fun _ => 0)))), (q17, .inl (Z.2.1 1, (86400, .inl (fun _ => 0)))), (q18, .inl (Z.2.1 1, (40000, .inl (fun _ => 0)))), (q19, .inl (Z.2.1 1, (24, .inl (fun _ => 0)))), (q20, .inl (Z.2.1 1, (24, .inl (fun _ => 0)))), (q21, .inl (Z.2.1 1, (24, .inl (fun _ => 0)))), (q22, .inl (Z.2.1 1, (144, .inl (fun _ => 0)))), (q23, .inl (Z.2.1 1, (24, .inl (fun _ => 0)))), (q24, .inl (Z.2.1 1, (86400, .inl (fun _ => 0)))), (q25, .inl (Z.2.1 1, (40000, .inl (fun _ => 0))))] := hM
  refine z_putF C (v := .ref q25) tyX12 (hM.1 0 _ rfl) rfl bi_wsX120 tyX12_ok nmX12 51 (by decide) zw_6_0 rfl rfl hnm rfl rfl rfl (by rw [nF_len]; decide) hS (Or.inl rfl) dX12_init_227 (fun H locs hu hn hS => ?_)
  have hM := hM.putN hu hn
  exact hret _ _ _ _ hS ⟨rfl, lW_isM hM⟩ dX12_init_230
