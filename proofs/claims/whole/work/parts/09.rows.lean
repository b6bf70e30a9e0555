/-! rows over single cells, in a context zC -/
section ZR
variable {p : Program} {l : Launch} {e : Env} {R : Room} {s : State} {m : MethodId} {args : Array Value} {below : List Frame} {meth : Method} {c : Code} {H : Heap} {locs : List Loc} {cells slots : Nat} {Q : State → Prop}
variable {Z : zT} {cc : ByteArray} {nL : Nat} {own : String} {ret : Option FieldType} {A : Nat → Prop} {a : Nat} {pc : Nat} {ls : Array Slot} {rest st0 : List Value}
theorem z_get (C : zC Z A p s m args meth c cc nL own ret) {ci N idx : Nat} {T : u_T} {C0 ref : String} {fs : List Value} {v : Value} (hP : zAt Z H a (.inr (ci, fs))) (hc : vwCl[ci]? = some (C0, T, N)) (hin : ∀ w ∈ u_ws C0 T N, w ∈ BIG) (k : Nat) (hk : k < N) (hlink : Cond.fieldLink own idx ref (T k).2.1 (T k).2.2.1 ∈ BIG) (href : (T k).1 = ref) (hv : fs[k]? = some v) (hdg : decode cc pc = .ok (.getfield idx, 3))
    (kk : W p l e R s m args below meth c H locs cells slots Q (F0 m (pc + 3) ls (v :: rest))) : W p l e R s m args below meth c H locs cells slots Q (F0 m pc ls (.ref a :: rest)) :=
  va_get (D := Z.1) (cl := vwCl) (tys := zTy Z) (ws := [(a, .inr (ci, fs))]) C.1 C.2.1 C.2.2.2.2.1 hin C.2.2.2.1 C.2.2.2.2.2.1 hP.sing 0 rfl hc k hk (C.2.2.2.2.1 _ hlink) (fun x h => by rw [← href]; exact h) hv hdg kk
theorem z_put (C : zC Z A p s m args meth c cc nL own ret) {ci N idx : Nat} {T : u_T} {C0 ref : String} {fs : List Value} {v : Value} (ty0 : Nat → FieldType) (hP : zAt Z H a (.inr (ci, fs))) (hc : vwCl[ci]? = some (C0, T, N)) (hin : ∀ w ∈ u_ws C0 T N, w ∈ BIG) (hty : ∀ k, k < N → parseFieldDescriptor (T k).2.2.1 = some (ty0 k)) (hnm : ∀ a, a < N → ∀ b, b < N → a ≠ b → (T a).2.1 ≠ (T b).2.1) (k : Nat) (hk : k < N) (hlink : Cond.fieldLink own idx ref (T k).2.1 (T k).2.2.1 ∈ BIG) (href : (T k).1 = ref)
    (hfin : (T k).2.2.2 = false) (hn : narrow (ty0 k) v = v) (hfit : fits (ty0 k) v = true) (hl : k < fs.length) (hS : va_S A s.heap H locs) (ha : A a) (hdg : decode cc pc = .ok (.putfield idx, 3))
    (kk : ∀ (H' : Heap) (locs' : List Loc), zUp H H' a → zAt Z H' a (.inr (ci, fs.set k v)) → va_S A s.heap H' locs' → W p l e R s m args below meth c H' locs' cells slots Q (F0 m (pc + 3) ls rest)) : W p l e R s m args below meth c H locs cells slots Q (F0 m pc ls (v :: .ref a :: rest)) := by
  have hK := C.2.2.2.2.2.1
  have hts := C.2.2.2.2.1
  have hown := C.2.2.2.1
  have hap := va_apart (own := own) hts hin ty0 hty hnm hK hc
  obtain ⟨r, h1, cell, q1, q2, q3, q4⟩ := hP
  have hr : r = (C0, T, N) := Option.some.inj (h1.symm.trans hc)
  subst hr
  obtain ⟨hS2, hfc, kC, hkC, hkind⟩ := hK.1 ci _ hc
  obtain ⟨cf, kf, fi, f, hi, hsl⟩ := hS2 k hk
  have hst := (u_facts hfc hkC (u_lays hts hin hk) hi).1
  have hd := hty k hk
  have hsame : s.fieldFound? ref (T k).2.1 (T k).2.2.1 = some (cf, kf, fi, f) := by rw [← href]; exact hi
  have hlay := hts _ (hin _ (u_in_lay hk))
  unfold u_lay at hlay
  rw [if_neg (by rw [hfin]; decide)] at hlay
  have h6 := u_store hfc hkC hkind hlay hi hd hn hfit
  refine W.putK C.1 C.2.1 (f := f) ⟨hown, hts _ hlink, ⟨_, _, _, hsame⟩, hst⟩ (by rw [q2]; exact h6) q1 q3 (by rw [hsl]; exact k2_hasslot (q4 k hk)) rfl rfl hdg fun H' e1 e2 e3 => ?_
  rw [hsl] at e1 ⊢
  exact kk H' _ ⟨e2, e3⟩ ⟨_, hc, t_OB.to (V := updV (vp_V fs) k v) ⟨_, e1, q2, q3, t_set q4 hap hk v⟩ (fun j _ => vp_updV_set hl v j)⟩ (hS.put e2 e3 ha)
theorem z_putF (C : zC Z A p s m args meth c cc nL own ret) {ci N idx : Nat} {T : u_T} {C0 ref : String} {fs : List Value} {v : Value} (ty0 : Nat → FieldType) (hP : zAt Z H a (.inr (ci, fs))) (hc : vwCl[ci]? = some (C0, T, N)) (hin : ∀ w ∈ u_ws C0 T N, w ∈ BIG) (hty : ∀ k, k < N → parseFieldDescriptor (T k).2.2.1 = some (ty0 k)) (hnm : ∀ a, a < N → ∀ b, b < N → a ≠ b → (T a).2.1 ≠ (T b).2.1) (k : Nat) (hk : k < N) (hlink : Cond.fieldLink own idx ref (T k).2.1 (T k).2.2.1 ∈ BIG) (href : (T k).1 = ref)
    (hfin : (T k).2.2.2 = true) (hin2 : meth.name = "<init>") (hdecl : (T k).1 = own) (hn : narrow (ty0 k) v = v) (hfit : fits (ty0 k) v = true) (hl : k < fs.length) (hS : va_S A s.heap H locs) (ha : A a) (hdg : decode cc pc = .ok (.putfield idx, 3))
    (kk : ∀ (H' : Heap) (locs' : List Loc), zUp H H' a → zAt Z H' a (.inr (ci, fs.set k v)) → va_S A s.heap H' locs' → W p l e R s m args below meth c H' locs' cells slots Q (F0 m (pc + 3) ls rest)) : W p l e R s m args below meth c H locs cells slots Q (F0 m pc ls (v :: .ref a :: rest)) := by
  have hK := C.2.2.2.2.2.1
  have hts := C.2.2.2.2.1
  have hown := C.2.2.2.1
  have hap := va_apart (own := own) hts hin ty0 hty hnm hK hc
  obtain ⟨r, h1, cell, q1, q2, q3, q4⟩ := hP
  have hr : r = (C0, T, N) := Option.some.inj (h1.symm.trans hc)
  subst hr
  obtain ⟨hS2, hfc, kC, hkC, hkind⟩ := hK.1 ci _ hc
  obtain ⟨cf, kf, fi, f, hi, hsl⟩ := hS2 k hk
  have hst := (u_facts hfc hkC (u_lays hts hin hk) hi).1
  have hd := hty k hk
  have hsame : s.fieldFound? ref (T k).2.1 (T k).2.2.1 = some (cf, kf, fi, f) := by rw [← href]; exact hi
  have hlay := hts _ (hin _ (u_in_lay hk))
  unfold u_lay at hlay
  rw [if_pos hfin] at hlay
  have hcf : m.cls = cf := by
    obtain ⟨_, _, c', _, _, _, -, -, hf', -, -, -, hown2, -⟩ := Cond.laysFinal_spec hlay
    have e1 : c' = cf := by have := hi.symm.trans hf'; simp at this; exact this.1.symm
    rw [hdecl] at hown2
    rw [← e1]; exact Option.some.inj (hown.symm.trans hown2)
  have h6 := u_fits hfc hkC hkind (Or.inr hlay) hi hd hn hfit
  refine W.putFinK C.1 C.2.1 hown (hts _ hlink) hsame hst hcf hin2 (by rw [q2]; exact h6) q1 q3 (by rw [hsl]; exact k2_hasslot (q4 k hk)) rfl rfl hdg fun H' e1 e2 e3 => ?_
  rw [hsl] at e1 ⊢
  exact kk H' _ ⟨e2, e3⟩ ⟨_, hc, t_OB.to (V := updV (vp_V fs) k v) ⟨_, e1, q2, q3, t_set q4 hap hk v⟩ (fun j _ => vp_updV_set hl v j)⟩ (hS.put e2 e3 ha)
theorem z_iald (C : zC Z A p s m args meth c cc nL own ret) {n : Nat} {f : Nat → Int32} (hP : zAt Z H a (.inl (Z.2.1 1, (n, .inl f)))) (j : Nat) {i : Int32} (hi : i = nI j) (hj : j < n) (hn : n < 2 ^ 31) (hdg : decode cc pc = .ok (.iaload, 1))
    (kk : W p l e R s m args below meth c H locs cells slots Q (F0 m (pc + 1) ls (.int (f j) :: rest))) : W p l e R s m args below meth c H locs cells slots Q (F0 m pc ls (.int i :: .ref a :: rest)) := by
  subst hi
  refine va_iald (D := Z.1) (cl := vwCl) (tys := zTy Z) (ws := [(a, .inl (Z.2.1 1, (n, .inl f)))]) (f := f) C.1 C.2.1 C.2.2.2.2.2.1 hP.sing 0 1 rfl rfl (vp_in_nI hj hn) hdg ?_
  rw [nI_clamp (by omega)]
  exact kk
theorem z_bald (C : zC Z A p s m args meth c cc nL own ret) {n : Nat} {f : Nat → Int32} (hP : zAt Z H a (.inl (Z.2.1 0, (n, .inl f)))) (j : Nat) {i : Int32} (hi : i = nI j) (hj : j < n) (hn : n < 2 ^ 31) (hdg : decode cc pc = .ok (.baload, 1))
    (kk : W p l e R s m args below meth c H locs cells slots Q (F0 m (pc + 1) ls (.int (f j) :: rest))) : W p l e R s m args below meth c H locs cells slots Q (F0 m pc ls (.int i :: .ref a :: rest)) := by
  subst hi
  refine va_bald (D := Z.1) (cl := vwCl) (tys := zTy Z) (ws := [(a, .inl (Z.2.1 0, (n, .inl f)))]) (f := f) C.1 C.2.1 C.2.2.2.2.2.1 hP.sing 0 0 rfl rfl (vp_in_nI hj hn) hdg ?_
  rw [nI_clamp (by omega)]
  exact kk
theorem z_lald (C : zC Z A p s m args meth c cc nL own ret) {n : Nat} {f : Nat → Int64} (hP : zAt Z H a (.inl (Z.2.1 2, (n, .inr (.inl f))))) (j : Nat) {i : Int32} (hi : i = nI j) (hj : j < n) (hn : n < 2 ^ 31) (hdg : decode cc pc = .ok (.laload, 1))
    (kk : W p l e R s m args below meth c H locs cells slots Q (F0 m (pc + 1) ls (.long (f j) :: rest))) : W p l e R s m args below meth c H locs cells slots Q (F0 m pc ls (.int i :: .ref a :: rest)) := by
  subst hi
  refine va_lald (D := Z.1) (cl := vwCl) (tys := zTy Z) (ws := [(a, .inl (Z.2.1 2, (n, .inr (.inl f))))]) (f := f) C.1 C.2.1 C.2.2.2.2.2.1 hP.sing 0 2 rfl rfl (vp_in_nI hj hn) hdg ?_
  rw [nI_clamp (by omega)]
  exact kk
theorem z_iast (C : zC Z A p s m args meth c cc nL own ret) {n : Nat} {f : Nat → Int32} (hP : zAt Z H a (.inl (Z.2.1 1, (n, .inl f)))) (j : Nat) {i : Int32} {x : Int32} (hi : i = nI j) (hj : j < n) (hn : n < 2 ^ 31) (hS : va_S A s.heap H locs) (ha : A a) (hdg : decode cc pc = .ok (.iastore, 1))
    (kk : ∀ (H' : Heap) (locs' : List Loc), zUp H H' a → zAt Z H' a (.inl (Z.2.1 1, (n, .inl (upd f j x)))) → va_S A s.heap H' locs' → W p l e R s m args below meth c H' locs' cells slots Q (F0 m (pc + 1) ls rest)) : W p l e R s m args below meth c H locs cells slots Q (F0 m pc ls (.int x :: .int i :: .ref a :: rest)) := by
  subst hi
  have hin := vp_in_nI hj hn
  refine W.iast C.1 C.2.1 hP ((C.2.2.2.2.2.1.2 1 _ rfl).1 n (fun j => .int (f j))) (fun q => by cases q) (by show ¬ (nI j < 0 ∨ (arrV _ _ _).slots.size ≤ _); rw [arrV_size]; exact hin) rfl rfl hdg fun H1 e z oq => ?_
  refine kk H1 _ ⟨z, oq⟩ ?_ (hS.put z oq ha)
  show H1[a]? = some (vp_cell _ _)
  rw [e]
  rw [vp_cell_i, vp_cell_i, arrV_store, nI_clamp (by omega)]
  congr 2
  funext q
  by_cases hq : q = j
  · subst hq
    simp [updV, upd, vp_updL, narrow]
  · simp [updV, upd, vp_updL, hq]
theorem z_last (C : zC Z A p s m args meth c cc nL own ret) {n : Nat} {f : Nat → Int64} (hP : zAt Z H a (.inl (Z.2.1 2, (n, .inr (.inl f))))) (j : Nat) {i : Int32} {x : Int64} (hi : i = nI j) (hj : j < n) (hn : n < 2 ^ 31) (hS : va_S A s.heap H locs) (ha : A a) (hdg : decode cc pc = .ok (.lastore, 1))
    (kk : ∀ (H' : Heap) (locs' : List Loc), zUp H H' a → zAt Z H' a (.inl (Z.2.1 2, (n, .inr (.inl (vp_updL f j x))))) → va_S A s.heap H' locs' → W p l e R s m args below meth c H' locs' cells slots Q (F0 m (pc + 1) ls rest)) : W p l e R s m args below meth c H locs cells slots Q (F0 m pc ls (.long x :: .int i :: .ref a :: rest)) := by
  subst hi
  have hin := vp_in_nI hj hn
  refine W.last C.1 C.2.1 hP ((C.2.2.2.2.2.1.2 2 _ rfl).1 n (fun j => .long (f j))) (fun q => by cases q) (by show ¬ (nI j < 0 ∨ (arrV _ _ _).slots.size ≤ _); rw [arrV_size]; exact hin) rfl rfl hdg fun H1 e z oq => ?_
  refine kk H1 _ ⟨z, oq⟩ ?_ (hS.put z oq ha)
  show H1[a]? = some (vp_cell _ _)
  rw [e]
  rw [vp_cell_l, vp_cell_l, arrV_store, nI_clamp (by omega)]
  congr 2
  funext q
  by_cases hq : q = j
  · subst hq
    simp [updV, upd, vp_updL, narrow]
  · simp [updV, upd, vp_updL, hq]
theorem z_bast (C : zC Z A p s m args meth c cc nL own ret) {n : Nat} {f : Nat → Int32} (hP : zAt Z H a (.inl (Z.2.1 0, (n, .inl f)))) (j : Nat) {i : Int32} {x : Int32} (hi : i = nI j) (hj : j < n) (hn : n < 2 ^ 31) (hS : va_S A s.heap H locs) (ha : A a) (hdg : decode cc pc = .ok (.bastore, 1))
    (kk : ∀ (H' : Heap) (locs' : List Loc), zUp H H' a → zAt Z H' a (.inl (Z.2.1 0, (n, .inl (upd f j x.toInt8.toInt32)))) → va_S A s.heap H' locs' → W p l e R s m args below meth c H' locs' cells slots Q (F0 m (pc + 1) ls rest)) : W p l e R s m args below meth c H locs cells slots Q (F0 m pc ls (.int x :: .int i :: .ref a :: rest)) := by
  subst hi
  have hin := vp_in_nI hj hn
  refine W.bast C.1 C.2.1 hP ((C.2.2.2.2.2.1.2 0 _ rfl).1 n (fun j => .int (f j))) (fun q => by cases q) (by show ¬ (nI j < 0 ∨ (arrV _ _ _).slots.size ≤ _); rw [arrV_size]; exact hin) rfl rfl hdg fun H1 e z oq => ?_
  refine kk H1 _ ⟨z, oq⟩ ?_ (hS.put z oq ha)
  show H1[a]? = some (vp_cell _ _)
  rw [e]
  rw [vp_cell_i, vp_cell_i, arrV_store, nI_clamp (by omega)]
  congr 2
  funext q
  by_cases hq : q = j
  · subst hq
    simp [updV, upd, vp_updL, narrow]
  · simp [updV, upd, vp_updL, hq]
theorem z_alen (C : zC Z A p s m args meth c cc nL own ret) {ti : Nat} {x : vp_A} {cA : ClassId} (hP : zAt Z H a (.inl (cA, x))) {ty : FieldType} (ht : (zTy Z)[ti]? = some (cA, ty)) (hdg : decode cc pc = .ok (.arraylength, 1))
    (kk : W p l e R s m args below meth c H locs cells slots Q (F0 m (pc + 1) ls (.int (nI x.1) :: rest))) : W p l e R s m args below meth c H locs cells slots Q (F0 m pc ls (.ref a :: rest)) :=
  va_alen (D := Z.1) (cl := vwCl) (tys := zTy Z) (ws := [(a, .inl (cA, x))]) C.1 C.2.1 C.2.2.2.2.2.1 hP.sing 0 ti rfl ht rfl hdg kk
/-! calls -/
abbrev zW (y : MethodName) (bytes : ByteArray) (maxL : Nat) (rt : Option FieldType) (own : String) (idx n : Nat) : Prop :=
  (Cond.code y bytes maxL rt ∈ BIG ∧ Cond.initialized y.cls ∈ BIG ∧ Cond.methodLink own idx y ∈ BIG) ∧ (y.cls ≠ "java/lang/invoke/MethodHandle" ∧ y.cls ≠ "java/lang/invoke/VarHandle" ∧ (parseMethodDescriptor y.desc).map (fun d => d.parameters.length) = some n)
abbrev zR (R rm : Room) (maxL : Nat) : Prop := rm.frames + 1 ≤ R.frames ∧ 8 + (maxL + 11) + rm.locals ≤ R.locals
theorem z_cb (C : zC Z A p s m args meth c cc nL own ret) {y : MethodName} {bytes : ByteArray} {maxL idx n : Nat} {rt : Option FieldType} {rm : Room} (hw : zW y bytes maxL rt own idx n) (hR : zR R rm maxL) : CallB R s args own idx y bytes maxL rt (Cond.code y bytes maxL rt :: BIG) rm rm.cells rm.slots n :=
  callB_of n C.2.2.2.2.1 (big_goodIn y bytes maxL rt hw.1.1) rfl rfl rfl (C.2.2.2.2.1 _ hw.1.2.1) (C.2.2.2.2.1 _ hw.1.2.2) hw.2 hR
theorem z_pre (C : zC Z A p s m args meth c cc nL own ret) {A1 : Nat → Prop} (hS : va_S A s.heap H locs) (hA : ∀ q, A1 q → A q) {av : List Value} : PreS s H (zPc Z A1 av H) av := ⟨zPc.blind, fun U hU hW => ⟨rfl, zK.moved hW.alike C.2.2.2.2.2.1, by rw [hU]; exact C.2.2.2.2.2.2.2.2.move (C.2.2.2.2.2.2.2.2.2.1.warm hW) hW.alike hS.2.1 hA, hU⟩⟩
theorem z_preV (C : zC Z A p s m args meth c cc nL own ret) {b ci : Nat} {fs : List Value} {C0 : String} {T : u_T} {N : Nat} {As : List Value} {A1 : Nat → Prop} (hS : va_S A s.heap H locs) (hA : ∀ q, A1 q → A q) (hb : zAt Z H b (.inr (ci, fs))) (hc : vwCl[ci]? = some (C0, T, N)) : PreV s H C0 b (zPc Z A1 (.ref b :: As) H) As :=
  ⟨zPc.blind, va_recv C.2.2.2.2.2.1 hb.sing hc (q0 := 0) rfl, fun U hU hW => ⟨rfl, zK.moved hW.alike C.2.2.2.2.2.1, by rw [hU]; exact C.2.2.2.2.2.2.2.2.move (C.2.2.2.2.2.2.2.2.2.1.warm hW) hW.alike hS.2.1 hA, hU⟩⟩
theorem z_fin {g : JFrame} {rest' : List Value} {post : Option Value → Heap → Prop} {A1 : Nat → Prop} {mc ms : Nat} {av : Array Value} (hr : va_Run p l e R s m args below meth c H locs cells slots mc ms g rest' (zQc post A1 av) A1) (hS : va_S A s.heap H locs) (hA : ∀ q, A1 q → A q)
    (kk : ∀ (v : Option Value) (H' : Heap) (locs' : List Loc), post v H' → va_S A s.heap H' locs' → H.size ≤ H'.size → (∀ q : Nat, q < H.size → ¬ A1 q → H'[q]? = H[q]?) → W p l e R s m args below meth c H' locs' (cells + mc) (slots + ms) Q { g with pc := g.pc + 3, stack := v.toList ++ rest' }) : W p l e R s m args below meth c H locs cells slots Q g := by
  intro T hT X
  obtain ⟨v, st₀, t, T', L, h0, X', hL, e1, e2, ⟨⟨v', hv, hp⟩, hz, hk⟩, st⟩ := hr T hT X
  cases hv
  rw [h0] at hz hk
  obtain ⟨t2, a1, b1⟩ := kk _ T'.heap (locs ++ L) (by rw [e1]; exact hp) ⟨Nat.le_trans hS.1 (by rw [e1]; exact hz), fun q h1 h2 => by rw [e1, hk q (Nat.lt_of_lt_of_le h1 hS.1) (fun z => h2 (hA q z))]; exact hS.2.1 q h1 h2, fun q hq => by
      rcases List.mem_append.mp hq with h | h
      · exact hS.2.2 q h
      · exact hA _ (hL q h)⟩ (by rw [e1]; exact hz) (fun q h1 h2 => by rw [e1]; exact hk q h1 h2) T' rfl X'
  exact ⟨t2, st t2 a1, b1⟩
theorem z_callV (C : zC Z A p s m args meth c cc nL own ret) {y : MethodName} {bytes : ByteArray} {maxL idx b ci mc ms n : Nat} {rt : Option FieldType} {rm : Room} {As : List Value} {A1 : Nat → Prop} {post : Option Value → Heap → Prop} {fs : List Value} {T : u_T} {N : Nat} (hM : zM l Z y bytes maxL rt rm (.ref b :: As) H A1 mc ms post) (hb : zAt Z H b (.inr (ci, fs))) (hc : vwCl[ci]? = some (y.cls, T, N)) (hw : zW y bytes maxL rt own idx n) (hi : Cond.instanceMethod y ∈ BIG) (hs : Cond.selects y.cls y y ∈ BIG) (hR : zR R rm maxL) (hm : rm.cells = mc ∧ rm.slots = ms) (hn : As.length = n) (hsz : ls.size = nL) (hst : st0 = As.reverse ++ .ref b :: rest) (hW : (rest.map fun v => v.category).sum ≤ 8) (hdg : decode cc pc = .ok (.invokevirtual idx, 3)) (hf : cells + mc ≤ R.cells ∧ slots + ms ≤ R.slots) (hS : va_S A s.heap H locs) (hA : ∀ q, A1 q → A q)
    (kk : ∀ (v : Option Value) (H' : Heap) (locs' : List Loc), post v H' → va_S A s.heap H' locs' → H.size ≤ H'.size → (∀ q : Nat, q < H.size → ¬ A1 q → H'[q]? = H[q]?) → W p l e R s m args below meth c H' locs' (cells + mc) (slots + ms) Q (F0 m (pc + 3) ls (v.toList ++ rest))) : W p l e R s m args below meth c H locs cells slots Q (F0 m pc ls st0) := by
  obtain ⟨rfl, rfl⟩ := hm
  exact z_fin (va_runV (C := y.cls) (As := As) (rest := rest) ⟨C.1, C.2.1, C.2.2.1, C.2.2.2.1, C.2.2.2.2.1⟩ hM ⟨z_cb C hw hR, C.2.2.2.2.1 _ hi, C.2.2.2.2.1 _ hs⟩ (z_preV C hS hA hb hc) rfl hn hsz hst (lv_room hW) hdg hf) hS hA kk
theorem z_callS (C : zC Z A p s m args meth c cc nL own ret) {y : MethodName} {bytes : ByteArray} {maxL idx mc ms n : Nat} {rt : Option FieldType} {rm : Room} {As : List Value} {A1 : Nat → Prop} {post : Option Value → Heap → Prop} (hM : zM l Z y bytes maxL rt rm As H A1 mc ms post) (hw : zW y bytes maxL rt own idx n) (hs : Cond.static y ∈ BIG) (hR : zR R rm maxL) (hm : rm.cells = mc ∧ rm.slots = ms) (hn : As.length = n) (hsz : ls.size = nL) (hst : st0 = As.reverse ++ rest) (hW : (rest.map fun v => v.category).sum ≤ 8) (hdg : decode cc pc = .ok (.invokestatic idx, 3)) (hf : cells + mc ≤ R.cells ∧ slots + ms ≤ R.slots) (hS : va_S A s.heap H locs) (hA : ∀ q, A1 q → A q)
    (kk : ∀ (v : Option Value) (H' : Heap) (locs' : List Loc), post v H' → va_S A s.heap H' locs' → H.size ≤ H'.size → (∀ q : Nat, q < H.size → ¬ A1 q → H'[q]? = H[q]?) → W p l e R s m args below meth c H' locs' (cells + mc) (slots + ms) Q (F0 m (pc + 3) ls (v.toList ++ rest))) : W p l e R s m args below meth c H locs cells slots Q (F0 m pc ls st0) := by
  obtain ⟨rfl, rfl⟩ := hm
  exact z_fin (va_runS (As := As) (rest := rest) ⟨C.1, C.2.1, C.2.2.1, C.2.2.2.1, C.2.2.2.2.1⟩ hM ⟨z_cb C hw hR, C.2.2.2.2.1 _ hs⟩ (z_pre C hS hA) rfl hn hsz hst (lv_room hW) hdg hf) hS hA kk
theorem z_callI (C : zC Z A p s m args meth c cc nL own ret) {y : MethodName} {bytes : ByteArray} {maxL idx b mc ms n : Nat} {rm : Room} {As : List Value} {A1 : Nat → Prop} {post : Option Value → Heap → Prop} (hM : zM l Z y bytes maxL none rm (.ref b :: As) H A1 mc ms post) (hw : zW y bytes maxL none own idx n) (hi : Cond.instanceMethod y ∈ BIG) (hy : y.name = "<init>") (hR : zR R rm maxL) (hm : rm.cells = mc ∧ rm.slots = ms) (hn : As.length = n) (hsz : ls.size = nL) (hst : st0 = As.reverse ++ .ref b :: rest) (hW : (rest.map fun v => v.category).sum ≤ 8) (hdg : decode cc pc = .ok (.invokespecial idx, 3)) (hf : cells + mc ≤ R.cells ∧ slots + ms ≤ R.slots) (hS : va_S A s.heap H locs) (hA : ∀ q, A1 q → A q)
    (kk : ∀ (v : Option Value) (H' : Heap) (locs' : List Loc), post v H' → va_S A s.heap H' locs' → H.size ≤ H'.size → (∀ q : Nat, q < H.size → ¬ A1 q → H'[q]? = H[q]?) → W p l e R s m args below meth c H' locs' (cells + mc) (slots + ms) Q (F0 m (pc + 3) ls (v.toList ++ rest))) : W p l e R s m args below meth c H locs cells slots Q (F0 m pc ls st0) := by
  obtain ⟨rfl, rfl⟩ := hm
  exact z_fin (va_runI (As := As) (rest := rest) ⟨C.1, C.2.1, C.2.2.1, C.2.2.2.1, C.2.2.2.2.1⟩ hM ⟨z_cb C hw hR, hy, C.2.2.2.2.1 _ hi⟩ (z_pre C hS hA) rfl hn hsz hst (lv_room hW) hdg hf) hS hA kk
/-! .. of methods that only read -/
theorem z_readV (C : zC Z A p s m args meth c cc nL own ret) {y : MethodName} {bytes : ByteArray} {maxL idx b ci n : Nat} {rt : Option FieldType} {rm : Room} {As : List Value} {v : Value} {fs : List Value} {T : u_T} {N : Nat} (hM : zP l Z y bytes maxL rt rm (.ref b :: As) H v) (hb : zAt Z H b (.inr (ci, fs))) (hc : vwCl[ci]? = some (y.cls, T, N)) (hw : zW y bytes maxL rt own idx n) (hi : Cond.instanceMethod y ∈ BIG) (hs : Cond.selects y.cls y y ∈ BIG) (hR : zR R rm maxL) (hm : rm.cells = 0 ∧ rm.slots = 0) (hn : As.length = n) (hsz : ls.size = nL) (hst : st0 = As.reverse ++ .ref b :: rest) (hW : (rest.map fun v => v.category).sum ≤ 8) (hdg : decode cc pc = .ok (.invokevirtual idx, 3)) (hf : cells ≤ R.cells ∧ slots ≤ R.slots) (hS : va_S A s.heap H locs)
    (kk : ∀ locs' : List Loc, va_S A s.heap H locs' → W p l e R s m args below meth c H locs' cells slots Q (F0 m (pc + 3) ls (v :: rest))) : W p l e R s m args below meth c H locs cells slots Q (F0 m pc ls st0) :=
  z_callV C hM hb hc hw hi hs hR hm hn hsz hst hW hdg hf hS (fun _ h => h.elim) (fun v' H' locs' hp hS' _ _ => by obtain ⟨rfl, rfl⟩ := hp; exact kk locs' hS')
theorem z_readS (C : zC Z A p s m args meth c cc nL own ret) {y : MethodName} {bytes : ByteArray} {maxL idx n : Nat} {rt : Option FieldType} {rm : Room} {As : List Value} {v : Value} (hM : zP l Z y bytes maxL rt rm As H v) (hw : zW y bytes maxL rt own idx n) (hs : Cond.static y ∈ BIG) (hR : zR R rm maxL) (hm : rm.cells = 0 ∧ rm.slots = 0) (hn : As.length = n) (hsz : ls.size = nL) (hst : st0 = As.reverse ++ rest) (hW : (rest.map fun v => v.category).sum ≤ 8) (hdg : decode cc pc = .ok (.invokestatic idx, 3)) (hf : cells ≤ R.cells ∧ slots ≤ R.slots) (hS : va_S A s.heap H locs)
    (kk : ∀ locs' : List Loc, va_S A s.heap H locs' → W p l e R s m args below meth c H locs' cells slots Q (F0 m (pc + 3) ls (v :: rest))) : W p l e R s m args below meth c H locs cells slots Q (F0 m pc ls st0) :=
  z_callS C hM hw hs hR hm hn hsz hst hW hdg hf hS (fun _ h => h.elim) (fun v' H' locs' hp hS' _ _ => by obtain ⟨rfl, rfl⟩ := hp; exact kk locs' hS')
/-! .. of methods that may throw -/
theorem z_finX {pc' : Nat} {rest' : List Value} {post : Option Value → Heap → Prop} {px : Heap → Prop} {A1 : Nat → Prop} {mc ms : Nat} {av : Array Value} (hr : vx_Run p l e R s m args below meth c H locs cells slots mc ms (F0 m pc' ls st0) rest' (zQc post A1 av) (zXC px A1) A1) (hS : va_S A s.heap H locs) (hA : ∀ q, A1 q → A q)
    (kx : ∀ (H' : Heap) (locs' : List Loc) (q : Nat) (ce : Cell), px H' → va_S A s.heap H' locs' → H.size ≤ H'.size → (∀ q : Nat, q < H.size → ¬ A1 q → H'[q]? = H[q]?) → H'[q]? = some ce → ce.vm = .none → s.vm.findClass zE = some ce.cls → vx_W p l e R s m args below meth c H' locs' (cells + mc) (slots + ms) Q (F0 m pc' ls rest') q)
    (kk : ∀ (v : Option Value) (H' : Heap) (locs' : List Loc), post v H' → va_S A s.heap H' locs' → H.size ≤ H'.size → (∀ q : Nat, q < H.size → ¬ A1 q → H'[q]? = H[q]?) → W p l e R s m args below meth c H' locs' (cells + mc) (slots + ms) Q (F0 m (pc' + 3) ls (v.toList ++ rest'))) : W p l e R s m args below meth c H locs cells slots Q (F0 m pc' ls st0) := by
  intro T hT X
  rcases hr T hT X with ⟨v, st₀, t, T', L, h0, X', hL, e1, e2, ⟨⟨v', hv, hp⟩, hF⟩, st⟩ | ⟨q, st₀, t, T', L, E, ce, h0, X', hL, e1, e2, ⟨rfl, hp, hF⟩, hce, hcv, hcl, st⟩
  · cases hv
    obtain ⟨k1, k2, k3⟩ := vx_keep h0 e1 hS (fun q _ h => hA q h) hA hL hF
    obtain ⟨t2, a1, b1⟩ := kk _ T'.heap (locs ++ L) (by rw [e1]; exact hp) k3 k1 k2 T' rfl X'
    exact ⟨t2, st t2 a1, b1⟩
  · obtain ⟨k1, k2, k3⟩ := vx_keep h0 e1 hS (fun q _ h => hA q h) hA hL hF
    obtain ⟨t2, a1, b1⟩ := kx T'.heap (locs ++ L) q ce (by rw [e1]; exact hp) k3 k1 k2 (by rw [e1]; exact hce) hcv hcl T' rfl X'
    exact ⟨t2, st.trans a1, b1⟩
theorem z_callVX (C : zC Z A p s m args meth c cc nL own ret) {y : MethodName} {bytes : ByteArray} {maxL idx b ci mc ms n : Nat} {rt : Option FieldType} {rm : Room} {As : List Value} {A1 : Nat → Prop} {post : Option Value → Heap → Prop} {px : Heap → Prop} {fs : List Value} {T : u_T} {N : Nat} (hM : zX l Z y bytes maxL rt rm (.ref b :: As) H A1 mc ms post px) (hb : zAt Z H b (.inr (ci, fs))) (hc : vwCl[ci]? = some (y.cls, T, N)) (hw : zW y bytes maxL rt own idx n) (hi : Cond.instanceMethod y ∈ BIG) (hs : Cond.selects y.cls y y ∈ BIG) (hR : zR R rm maxL) (hm : rm.cells = mc ∧ rm.slots = ms) (hn : As.length = n) (hsz : ls.size = nL) (hst : st0 = As.reverse ++ .ref b :: rest) (hW : (rest.map fun v => v.category).sum ≤ 8) (hdg : decode cc pc = .ok (.invokevirtual idx, 3)) (hf : cells + mc ≤ R.cells ∧ slots + ms ≤ R.slots) (hS : va_S A s.heap H locs) (hA : ∀ q, A1 q → A q)
    (kx : ∀ (H' : Heap) (locs' : List Loc) (q : Nat) (ce : Cell), px H' → va_S A s.heap H' locs' → H.size ≤ H'.size → (∀ q : Nat, q < H.size → ¬ A1 q → H'[q]? = H[q]?) → H'[q]? = some ce → ce.vm = .none → s.vm.findClass zE = some ce.cls → vx_W p l e R s m args below meth c H' locs' (cells + mc) (slots + ms) Q (F0 m pc ls rest) q)
    (kk : ∀ (v : Option Value) (H' : Heap) (locs' : List Loc), post v H' → va_S A s.heap H' locs' → H.size ≤ H'.size → (∀ q : Nat, q < H.size → ¬ A1 q → H'[q]? = H[q]?) → W p l e R s m args below meth c H' locs' (cells + mc) (slots + ms) Q (F0 m (pc + 3) ls (v.toList ++ rest))) : W p l e R s m args below meth c H locs cells slots Q (F0 m pc ls st0) := by
  obtain ⟨rfl, rfl⟩ := hm
  exact z_finX (vx_runV (C := y.cls) (As := As) (rest := rest) ⟨C.1, C.2.1, C.2.2.1, C.2.2.2.1, C.2.2.2.2.1⟩ hM ⟨z_cb C hw hR, C.2.2.2.2.1 _ hi, C.2.2.2.2.1 _ hs⟩ (z_preV C hS hA hb hc) rfl hn hsz hst (lv_room hW) hdg hf) hS hA kx kk
end ZR
