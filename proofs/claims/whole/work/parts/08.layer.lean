/-! the layer: contracts over a heap that has a name; rows over single cells -/
/-! ints as whole numbers: zI t -/
def zI (t : Int) : Int32 := Int32.ofInt t
def zL (t : Int) : Int64 := Int64.ofInt t
/-! what lies outside the two programs' objects: constants' texts, two rows of numbers, what String asks -/
def tx : Nat → List Nat := fun i => match i with
  | 0 => [67, 111, 100, 101]
  | 1 => [68, 105, 118, 105, 100, 101, 69, 114, 114, 111, 114]
  | 2 => [78, 117, 108, 108, 69, 114, 114, 111, 114]
  | 3 => [73, 110, 100, 101, 120, 69, 114, 114, 111, 114]
  | 4 => [83, 105, 122, 101, 69, 114, 114, 111, 114]
  | _ => []
def zSL : List Nat := [4, 11, 9, 10, 9]
def zSB : List (List Int32) := [[67, 111, 100, 101], [68, 105, 118, 105, 100, 101, 69, 114, 114, 111, 114], [78, 117, 108, 108, 69, 114, 114, 111, 114], [73, 110, 100, 101, 120, 69, 114, 114, 111, 114], [83, 105, 122, 101, 69, 114, 114, 111, 114]]
def hd : Nat → Nat := fun k => match k with
  | 0 => 202
  | 1 => 254
  | 2 => 186
  | 3 => 190
  | 7 => 49
  | _ => 0
def lensL : List Nat := [1, 1, 1, 1, 1, 1, 1, 1, 1, 1, 1, 0, 0, 0, 0, 0, 2, 3, 2, 3, 3, 2, 2, 0, 0, 2, 1, 1, 1, 1, 1, 1, 1, 1, 0, 0, 0, 0, 0, 0, 0, 0, 1, 1, 1, 1, 1, 0, 0, 0, 0, 0, 0, 0, 2, 2, 0, 0, 2, 1, 1, 1, 1, 1, 1, 1, 1, 0, 0, 0, 0, 0, 0, 0, 0, 1, 1, 1, 1, 1, 0, 0, 0, 0, 0, 0, 0, 1, 1, 1, 1, 0, 1, 0, 0, 1, 1, 1, 0, 0, 1, 1, 0, 0, 1, 1, 0, 0, 1, 1, 0, 0, 1, 1, 0, 0, 1, 1, 0, 0, 1, 1, 1, 1, 1, 1, 1, 1, 1, 1, 1, 1, 3, 1, 0, 0, 1, 0, 0, 0, 0, 0, 0, 0, 0, 1, 1, 1, 1, 0, 0, 0, 0, 3, 3, 3, 3, 3, 3, 3, 3, 3, 3, 3, 3, 3, 3, 3, 0, 0, 0, 0, 1, 1, 0, 0, 1, 1, 3, 3, 0, 0, 0, 0, 3, 0, 0, 0, 2, 0, 1, 1, 0, 0, 0, 0, 0, 0, 3, 3, 5]
def lens (k : Nat) : Nat := lensL.getD k 0
abbrev zT : Type := va_G × (Nat → ClassId) × (Nat → Nat) × (Nat → Nat)
/-- calls of a nest mate's private methods -/
def zNest : List (String × Nat × MethodName) := [(RX2, 42, yX0_init), (RX7, 41, yX11_put), (RX7, 54, yX11_at), (RX9, 23, yX11_at), (RX9, 43, yX11_put), (RX4, 136, yX11_put), (RX6, 25, yX11_at), (RX4, 147, yX11_at), (RX5, 23, yX11_at), (RX5, 60, yX11_put), (RX2, 76, yX11_at)]
def zRefs (Z : zT) (U : State) : Prop := vk_R "FileRulesModel" 226 "Code" (Z.2.2.1 0) U ∧ vk_R "FileRulesModel" 331 "DivideError" (Z.2.2.1 1) U ∧ vk_R "FileRulesModel" 333 "NullError" (Z.2.2.1 2) U ∧ vk_R "FileRulesModel" 335 "IndexError" (Z.2.2.1 3) U ∧ vk_R "FileRulesModel" 337 "SizeError" (Z.2.2.1 4) U ∧ vk_R "FileRules$Names" 121 "Code" (Z.2.2.1 0) U ∧ vk_R "FileRules$Links" 188 "DivideError" (Z.2.2.1 1) U ∧ vk_R "FileRules$Links" 194 "NullError" (Z.2.2.1 2) U ∧ vk_R "FileRules$Links" 196 "IndexError" (Z.2.2.1 3) U ∧ vk_R "FileRules$Links" 198 "SizeError" (Z.2.2.1 4) U ∧ (∀ w ∈ zNest, va_Nw (.methodLinkNest w.1 w.2.1 w.2.2 "FileRules") U) ∧ va_AO "FileRules$Body" U ∧ (va_Nw (.declares (Bundle.init0 "java/lang/RuntimeException")) U ∧ va_Nw (.declares (Bundle.init0 "java/lang/Exception")) U ∧ va_Nw (.declares (Bundle.init0 "java/lang/Throwable")) U ∧ va_Nw (.castable "java/lang/IllegalStateException" "java/lang/IllegalStateException") U)
def zEnv (Z : zT) (A : Nat → Prop) (U : State) (H : Heap) : Prop :=
  vk_S 5 zSL zSB Z.2.2.1 Z.2.2.2 A U H ∧ zRefs Z U ∧ va_Z "java/lang/String" "COMPACT_STRINGS" "Z" (.int 1) A U H ∧ (va_Zq "jdk/internal/util/Preconditions" "SIOOBE_FORMATTER" "Ljava/util/function/BiFunction;" A U H ∧ vx_Zq Bundle.tN "UNASSIGNED_STACK" Bundle.steD A U H ∧ vx_Zq Bundle.tN "SUPPRESSED_SENTINEL" Bundle.listD A U H) ∧
  (∃ t : Nat, va_Z "FileRules$Layout" "HEAD" "[I" (.ref t) A U H ∧ va_T .int t 8 (fun j => .int (zI (hd j : Int))) A U H) ∧ (∃ t : Nat, va_Z "FileRules$Instructions" "LENGTHS" "[I" (.ref t) A U H ∧ va_T .int t 201 (fun j => .int (zI (lens j : Int))) A U H)
theorem zRefs.warm {Z : zT} {s U : State} (hW : s.WarmedH U.vm) (h : zRefs Z s) : zRefs Z U := by
  obtain ⟨h0, h1, h2, h3, h4, h5, h6, h7, h8, h9, h10, h11, h12⟩ := h
  exact ⟨h0.warm hW, h1.warm hW, h2.warm hW, h3.warm hW, h4.warm hW, h5.warm hW, h6.warm hW, h7.warm hW, h8.warm hW, h9.warm hW, fun w h => (h10 w h).warmM hW, va_AO.moved hW.alike h11, h12.1.warmD hW, h12.2.1.warmD hW, h12.2.2.1.warmD hW, h12.2.2.2.warmC hW⟩
theorem zRefs.vm {Z : zT} {s U : State} (hW : U.vm = s.vm) (h : zRefs Z s) : zRefs Z U := by
  obtain ⟨h0, h1, h2, h3, h4, h5, h6, h7, h8, h9, h10, h11, h12⟩ := h
  exact ⟨h0.same hW, h1.same hW, h2.same hW, h3.same hW, h4.same hW, h5.same hW, h6.same hW, h7.same hW, h8.same hW, h9.same hW, fun w h => (h10 w h).same rfl hW.symm, va_AO.moved (by rw [hW]; exact Vm.Alike.refl _) h11, h12.1.same rfl hW.symm, h12.2.1.same rfl hW.symm, h12.2.2.1.same rfl hW.symm, h12.2.2.2.same rfl hW.symm⟩
theorem zEnv.move {Z : zT} {A A1 : Nat → Prop} {s U : State} {H0 H : Heap} (h : zEnv Z A s H0) (hr : zRefs Z U) (hvm : s.vm.Alike U.vm) (hq : ∀ a : Nat, a < H0.size → ¬ A a → H[a]? = H0[a]?) (hA : ∀ q, A1 q → A q) : zEnv Z A1 U H := by
  obtain ⟨h1, -, h3, ⟨h4, h41, h42⟩, ⟨t5, h5, h6⟩, ⟨t7, h7, h8⟩⟩ := h
  exact ⟨((vk_S.moved hvm h1).kept hq).narrow hA, hr, ((va_Z.moved hvm h3).kept hq).narrow hA, ⟨((va_Zq.moved hvm h4).kept hq).narrow hA, ((vx_Zq.moved hvm h41).kept hq).narrow hA, ((vx_Zq.moved hvm h42).kept hq).narrow hA⟩, ⟨t5, ((va_Z.moved hvm h5).kept hq).narrow hA, ((va_T.moved hvm h6).kept hq).narrow hA⟩, ⟨t7, ((va_Z.moved hvm h7).kept hq).narrow hA, ((va_T.moved hvm h8).kept hq).narrow hA⟩⟩
def zTy (Z : zT) : List (ClassId × FieldType) := [(Z.2.1 0, .byte), (Z.2.1 1, .int), (Z.2.1 2, .long), (Z.2.1 3, .object "FileRules$Body")]
def zK (Z : zT) (U : State) : Prop := va_K Z.1 vwCl (zTy Z) U
theorem zK.moved {Z : zT} {u U : State} (hvm : u.vm.Alike U.vm) (h : zK Z u) : zK Z U := va_K.moved hvm h
def zAt (Z : zT) (H : Heap) (a : Nat) (e : va_E) : Prop := va_at Z.1 vwCl (a, e) H
theorem zAt.kept {Z : zT} {H H1 : Heap} {a : Nat} {e : va_E} (h : zAt Z H a e) (hq : H1[a]? = H[a]?) : zAt Z H1 a e := va_at.kept h hq
theorem zAt.lt {Z : zT} {H : Heap} {a : Nat} {e : va_E} (h : zAt Z H a e) : a < H.size := va_at.lt h
theorem zAt.sing {Z : zT} {H : Heap} {a : Nat} {e : va_E} (h : zAt Z H a e) : va_P Z.1 vwCl [(a, e)] H := by
  intro k q hk
  match k, hk with
  | 0, hk => cases hk; exact h
  | k + 1, hk => simp at hk
def zUp (H H' : Heap) (a : Nat) : Prop := H'.size = H.size ∧ ∀ q : Nat, q ≠ a → H'[q]? = H[q]?
theorem zUp.at {Z : zT} {H H' : Heap} {a b : Nat} {e : va_E} (u : zUp H H' a) (h : zAt Z H b e) (hne : b ≠ a) : zAt Z H' b e := h.kept (u.2 b hne)
def zC (Z : zT) (A : Nat → Prop) (p : Program) (s : State) (m : MethodId) (args : Array Value) (meth : Method) (c : Code) (cc : ByteArray) (nL : Nat) (own : String) (ret : Option FieldType) : Prop :=
  p.tables.exec = Jvm.exec ∧ c.code = cc ∧ c.maxLocals = nL ∧ s.vm.findClass own = some m.cls ∧ (∀ w ∈ BIG, w.before args s = true) ∧ zK Z s ∧ meth.locks = false ∧ meth.sig.returnType = ret ∧ zEnv Z A s s.heap
def zPc (Z : zT) (A : Nat → Prop) (av : List Value) (H : Heap) : Array Value → State → Prop := fun v U => v = av.toArray ∧ zK Z U ∧ zEnv Z A U U.heap ∧ U.heap = H
theorem zPc.blind {Z : zT} {A : Nat → Prop} {av : List Value} {H : Heap} : FrameBlind (zPc Z A av H) := fun a U g mk q => ⟨q.1, va_K.moved (u := U) (U := U.calling g mk a) (Vm.Alike.refl U.vm) q.2.1, zEnv.move (s := U) (U := U.calling g mk a) q.2.2.1 (zRefs.vm rfl q.2.2.1.2.1) (Vm.Alike.refl U.vm) (fun _ _ _ => rfl) (fun _ h => h), q.2.2.2⟩
def zQc (post : Option Value → Heap → Prop) (A : Nat → Prop) : Array Value → State → Outcome → State → Prop := fun _ st oc t => (∃ v : Option Value, oc = .returned v ∧ post v t.heap) ∧ va_F A st t
def zM (l : Launch) (Z : zT) (y : MethodName) (cc : ByteArray) (nL : Nat) (ret : Option FieldType) (rm : Room) (av : List Value) (H : Heap) (A : Nat → Prop) (mc ms : Nat) (post : Option Value → Heap → Prop) : Prop :=
  Met l y (Cond.code y cc nL ret :: BIG) rm (zPc Z A av H) (zQc post A) mc ms A
abbrev zE : String := "java/lang/IllegalStateException"
def zXC (px : Heap → Prop) (A : Nat → Prop) : String → State → State → Prop := fun E st t => E = zE ∧ px t.heap ∧ va_F A st t
def zX (l : Launch) (Z : zT) (y : MethodName) (cc : ByteArray) (nL : Nat) (ret : Option FieldType) (rm : Room) (av : List Value) (H : Heap) (A : Nat → Prop) (mc ms : Nat) (post : Option Value → Heap → Prop) (px : Heap → Prop) : Prop :=
  vx_Met l y (Cond.code y cc nL ret :: BIG) rm (zPc Z A av H) (zQc post A) (zXC px A) mc ms A
/-- a method that only reads: its answer is known -/
def zP (l : Launch) (Z : zT) (y : MethodName) (cc : ByteArray) (nL : Nat) (ret : Option FieldType) (rm : Room) (av : List Value) (H : Heap) (r : Value) : Prop :=
  zM l Z y cc nL ret rm av H (fun _ => False) 0 0 (fun v H' => v = some r ∧ H' = H)
theorem big_goodIn (y : MethodName) (cc : ByteArray) (nL : Nat) (ret : Option FieldType) (h : Cond.code y cc nL ret ∈ BIG) : GoodIn BIG (Cond.code y cc nL ret :: BIG) := fun w hw => by
  rcases List.mem_cons.mp hw with rfl | hw
  · exact ⟨h, good_of_word (big_good _ h)⟩
  · exact ⟨hw, good_of_word (big_good _ hw)⟩
abbrev zTh (p : Program) (l : Launch) (e : Env) (R : Room) (s : State) (m : MethodId) (args : Array Value) (below : List Frame) (meth : Method) (c : Code) (A : Nat → Prop) (mc ms : Nat) (Q : State → Prop) (px : Heap → Prop) : Prop :=
  ∀ (pc : Nat) (ls : Array Slot) (rest : List Value) (H' : Heap) (locs : List Loc) (q : Nat) (ce : Cell), va_S A s.heap H' locs → px H' → H'[q]? = some ce → ce.vm = .none → s.vm.findClass zE = some ce.cls → vx_W p l e R s m args below meth c H' locs mc ms Q (F0 m pc ls rest) q
section ZI
variable {l : Launch} {Z : zT} {y : MethodName} {cc : ByteArray} {nL : Nat} {rm : Room} {av : List Value} {H : Heap} {A : Nat → Prop} {mc ms : Nat} {post : Option Value → Heap → Prop} {px : Heap → Prop} {own : String}
theorem zM.introI {ty : FieldType} (hy : plainName y.cls = true ∧ y.cls = own) (hlen : (lg_sl av).length ≤ nL)
    (body : ∀ (p : Program) (e : Env) (s : State) (m : MethodId) (args : Array Value) (below : List Frame) (meth : Method) (c : Code) (Q : State → Prop) (ls : Array Slot), s.heap = H → zC Z A p s m args meth c cc nL own (some ty) → lv_has ls nL (lv_args 0 av) →
      (∀ (pc : Nat) (ls : Array Slot) (H' : Heap) (locs : List Loc) (r : Int32), va_S A s.heap H' locs → post (some (.int r)) H' → narrow ty (.int r) = .int r → decode cc pc = .ok (.ireturn, 1) → W p l e rm s m args below meth c H' locs mc ms Q (F0 m pc ls [.int r])) →
      W p l e rm s m args below meth c H [] 0 0 Q (F0 m 0 ls [])) : zM l Z y cc nL (some ty) rm av H A mc ms post := by
  refine Met.ofW (cc := cc) (maxL := nL) (ret := some ty) hy.1 rfl ?_
  intro p e s m args below meth c s₁ B hml hv
  obtain ⟨rfl, hK, hE, hH⟩ := hv
  have hts := atoms_spec (ws := Cond.code y cc nL (some ty) :: BIG) B.pre
  have hC : zC Z A p s m av.toArray meth c cc nL own (some ty) := ⟨B.exec, B.bytes, hml, by rw [← hy.2]; exact findClass_of_methodNamed B.named, fun w h => hts w (List.mem_cons_of_mem _ h), hK, B.notSynchronized, B.returns, hE⟩
  have hl := lv_entry av (n := nL) hlen
  rw [lg_entry_eq]
  generalize (lg_sl av ++ List.replicate (nL - (lg_sl av).length) Slot.unset).toArray = ls at hl ⊢
  have hlk := B.notSynchronized
  have K := body p e s m av.toArray below meth c (MQ below (zQc post A) av.toArray s mc ms A) ls hH hC hl (fun pc ls H' locs r hS hp hn hd => W.zret B.exec B.bytes B.returns hn (fun t ht hW => ⟨⟨_, rfl, by rw [ht]; exact hp⟩, va_S.F hS ht⟩) hS.2.2 hd hlk)
  rw [hH]
  exact K
theorem zM.introV (hy : plainName y.cls = true ∧ y.cls = own) (hlen : (lg_sl av).length ≤ nL)
    (body : ∀ (p : Program) (e : Env) (s : State) (m : MethodId) (args : Array Value) (below : List Frame) (meth : Method) (c : Code) (Q : State → Prop) (ls : Array Slot), s.heap = H → zC Z A p s m args meth c cc nL own none → meth.name = y.name → lv_has ls nL (lv_args 0 av) →
      (∀ (pc : Nat) (ls : Array Slot) (H' : Heap) (locs : List Loc), va_S A s.heap H' locs → post none H' → decode cc pc = .ok (.return_, 1) → W p l e rm s m args below meth c H' locs mc ms Q (F0 m pc ls [])) →
      W p l e rm s m args below meth c H [] 0 0 Q (F0 m 0 ls [])) : zM l Z y cc nL none rm av H A mc ms post := by
  refine Met.ofW (cc := cc) (maxL := nL) (ret := none) hy.1 rfl ?_
  intro p e s m args below meth c s₁ B hml hv
  obtain ⟨rfl, hK, hE, hH⟩ := hv
  have hts := atoms_spec (ws := Cond.code y cc nL none :: BIG) B.pre
  have hC : zC Z A p s m av.toArray meth c cc nL own none := ⟨B.exec, B.bytes, hml, by rw [← hy.2]; exact findClass_of_methodNamed B.named, fun w h => hts w (List.mem_cons_of_mem _ h), hK, B.notSynchronized, B.returns, hE⟩
  have hl := lv_entry av (n := nL) hlen
  rw [lg_entry_eq]
  generalize (lg_sl av ++ List.replicate (nL - (lg_sl av).length) Slot.unset).toArray = ls at hl ⊢
  have hlk := B.notSynchronized
  have K := body p e s m av.toArray below meth c (MQ below (zQc post A) av.toArray s mc ms A) ls hH hC (name_of_methodNamed B.named B.method).1 hl (fun pc ls H' locs hS hp hd => W.vret B.exec B.bytes B.returns (fun t ht hW => ⟨⟨_, rfl, by rw [ht]; exact hp⟩, va_S.F hS ht⟩) hS.2.2 hd hlk)
  rw [hH]
  exact K
theorem zM.introA {C : String} (hy : plainName y.cls = true ∧ y.cls = own) (hlen : (lg_sl av).length ≤ nL)
    (body : ∀ (p : Program) (e : Env) (s : State) (m : MethodId) (args : Array Value) (below : List Frame) (meth : Method) (c : Code) (Q : State → Prop) (ls : Array Slot), s.heap = H → zC Z A p s m args meth c cc nL own (some (.object C)) → lv_has ls nL (lv_args 0 av) →
      (∀ (pc : Nat) (ls : Array Slot) (H' : Heap) (locs : List Loc) (r : Value), va_S A s.heap H' locs → post (some r) H' → (r = .null ∨ ∃ a, r = .ref a) → decode cc pc = .ok (.areturn, 1) → W p l e rm s m args below meth c H' locs mc ms Q (F0 m pc ls [r])) →
      W p l e rm s m args below meth c H [] 0 0 Q (F0 m 0 ls [])) : zM l Z y cc nL (some (.object C)) rm av H A mc ms post := by
  refine Met.ofW (cc := cc) (maxL := nL) (ret := some (.object C)) hy.1 rfl ?_
  intro p e s m args below meth c s₁ B hml hv
  obtain ⟨rfl, hK, hE, hH⟩ := hv
  have hts := atoms_spec (ws := Cond.code y cc nL (some (.object C)) :: BIG) B.pre
  have hC : zC Z A p s m av.toArray meth c cc nL own (some (.object C)) := ⟨B.exec, B.bytes, hml, by rw [← hy.2]; exact findClass_of_methodNamed B.named, fun w h => hts w (List.mem_cons_of_mem _ h), hK, B.notSynchronized, B.returns, hE⟩
  have hl := lv_entry av (n := nL) hlen
  rw [lg_entry_eq]
  generalize (lg_sl av ++ List.replicate (nL - (lg_sl av).length) Slot.unset).toArray = ls at hl ⊢
  have hlk := B.notSynchronized
  have K := body p e s m av.toArray below meth c (MQ below (zQc post A) av.toArray s mc ms A) ls hH hC hl (fun pc ls H' locs r hS hp hr hd => W.aret B.exec B.bytes B.returns (Or.inl ⟨C, rfl⟩) hr (fun t ht hW => ⟨⟨_, rfl, by rw [ht]; exact hp⟩, va_S.F hS ht⟩) hS.2.2 hd hlk)
  rw [hH]
  exact K
theorem zX.introI {ty : FieldType} (hy : plainName y.cls = true ∧ y.cls = own) (hlen : (lg_sl av).length ≤ nL)
    (body : ∀ (p : Program) (e : Env) (s : State) (m : MethodId) (args : Array Value) (below : List Frame) (meth : Method) (c : Code) (Q : State → Prop) (ls : Array Slot), s.heap = H → zC Z A p s m args meth c cc nL own (some ty) → lv_has ls nL (lv_args 0 av) →
      zTh p l e rm s m args below meth c A mc ms Q px →
      (∀ (pc : Nat) (ls : Array Slot) (H' : Heap) (locs : List Loc) (r : Int32), va_S A s.heap H' locs → post (some (.int r)) H' → narrow ty (.int r) = .int r → decode cc pc = .ok (.ireturn, 1) → W p l e rm s m args below meth c H' locs mc ms Q (F0 m pc ls [.int r])) →
      W p l e rm s m args below meth c H [] 0 0 Q (F0 m 0 ls [])) : zX l Z y cc nL (some ty) rm av H A mc ms post px := by
  refine vx_ofW (cc := cc) (maxL := nL) (ret := some ty) hy.1 rfl ?_
  intro p e s m args below meth c s₁ B hml htab hv
  obtain ⟨rfl, hK, hE, hH⟩ := hv
  have hts := atoms_spec (ws := Cond.code y cc nL (some ty) :: BIG) B.pre
  have hC : zC Z A p s m av.toArray meth c cc nL own (some ty) := ⟨B.exec, B.bytes, hml, by rw [← hy.2]; exact findClass_of_methodNamed B.named, fun w h => hts w (List.mem_cons_of_mem _ h), hK, B.notSynchronized, B.returns, hE⟩
  have hl := lv_entry av (n := nL) hlen
  rw [lg_entry_eq]
  generalize (lg_sl av ++ List.replicate (nL - (lg_sl av).length) Slot.unset).toArray = ls at hl ⊢
  have hlk := B.notSynchronized
  have K := body p e s m av.toArray below meth c (vx_MQ below (zQc post A) (zXC px A) av.toArray s mc ms A) ls hH hC hl (fun pc ls rest H' locs q ce hS hp h1 h2 h3 => vx_out (fun x hx => (htab x hx).elim) hlk h1 h2 h3 (fun t ht hvm => ⟨rfl, by rw [ht]; exact hp, va_S.F hS ht⟩) hS.2.2 (Nat.le_refl _) (Nat.le_refl _)) (fun pc ls H' locs r hS hp hn hd => vx_ret (W.zret B.exec B.bytes B.returns hn (fun t ht hW => ⟨⟨_, rfl, by rw [ht]; exact hp⟩, va_S.F hS ht⟩) hS.2.2 hd hlk))
  rw [hH]
  exact K
theorem zX.introV (hy : plainName y.cls = true ∧ y.cls = own) (hlen : (lg_sl av).length ≤ nL)
    (body : ∀ (p : Program) (e : Env) (s : State) (m : MethodId) (args : Array Value) (below : List Frame) (meth : Method) (c : Code) (Q : State → Prop) (ls : Array Slot), s.heap = H → zC Z A p s m args meth c cc nL own none → lv_has ls nL (lv_args 0 av) →
      zTh p l e rm s m args below meth c A mc ms Q px →
      (∀ (pc : Nat) (ls : Array Slot) (H' : Heap) (locs : List Loc), va_S A s.heap H' locs → post none H' → decode cc pc = .ok (.return_, 1) → W p l e rm s m args below meth c H' locs mc ms Q (F0 m pc ls [])) →
      W p l e rm s m args below meth c H [] 0 0 Q (F0 m 0 ls [])) : zX l Z y cc nL none rm av H A mc ms post px := by
  refine vx_ofW (cc := cc) (maxL := nL) (ret := none) hy.1 rfl ?_
  intro p e s m args below meth c s₁ B hml htab hv
  obtain ⟨rfl, hK, hE, hH⟩ := hv
  have hts := atoms_spec (ws := Cond.code y cc nL none :: BIG) B.pre
  have hC : zC Z A p s m av.toArray meth c cc nL own none := ⟨B.exec, B.bytes, hml, by rw [← hy.2]; exact findClass_of_methodNamed B.named, fun w h => hts w (List.mem_cons_of_mem _ h), hK, B.notSynchronized, B.returns, hE⟩
  have hl := lv_entry av (n := nL) hlen
  rw [lg_entry_eq]
  generalize (lg_sl av ++ List.replicate (nL - (lg_sl av).length) Slot.unset).toArray = ls at hl ⊢
  have hlk := B.notSynchronized
  have K := body p e s m av.toArray below meth c (vx_MQ below (zQc post A) (zXC px A) av.toArray s mc ms A) ls hH hC hl (fun pc ls rest H' locs q ce hS hp h1 h2 h3 => vx_out (fun x hx => (htab x hx).elim) hlk h1 h2 h3 (fun t ht hvm => ⟨rfl, by rw [ht]; exact hp, va_S.F hS ht⟩) hS.2.2 (Nat.le_refl _) (Nat.le_refl _)) (fun pc ls H' locs hS hp hd => vx_ret (W.vret B.exec B.bytes B.returns (fun t ht hW => ⟨⟨_, rfl, by rw [ht]; exact hp⟩, va_S.F hS ht⟩) hS.2.2 hd hlk))
  rw [hH]
  exact K
end ZI
