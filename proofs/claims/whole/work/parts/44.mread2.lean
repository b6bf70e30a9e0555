/-! the model: read -/
def zMH (l : Launch) (Z : zT) (y : MethodName) (cc : ByteArray) (nL : Nat) (ret : Option FieldType) (hh : List (Nat × Nat × Nat × Nat)) (rm : Room) (av : List Value) (H : Heap) (A : Nat → Prop) (mc ms : Nat) (post : Option Value → Heap → Prop) : Prop :=
  Met l y (Cond.codeWith y cc nL ret hh :: BIG) rm (zPc Z A av H) (zQc post A) mc ms A
theorem z_ofWH {l : Launch} {y : MethodName} {ws ws' : List Cond} {rm : Room} {Pc : Array Value → State → Prop} {Qc : Array Value → State → Outcome → State → Prop} {mc ms : Nat} {free : Addr → Prop} {cc : ByteArray} {maxL : Nat} {ret : Option FieldType} {hh : List (Nat × Nat × Nat × Nat)}
    (hy : plainName y.cls = true) (hw : ws = Cond.codeWith y cc maxL ret hh :: ws')
    (body : ∀ p e s m args below meth c s₁, BodyLoose p l y (headSpec ws rm) cc maxL ret e s m args below meth c s₁ → c.maxLocals = maxL → Pc args s →
      W p l e (headSpec ws rm).room s m args below meth c s.heap [] 0 0 (MQ below Qc args s mc ms free) (entryFrame m args maxL)) : Met l y ws rm Pc Qc mc ms free := by
  refine MetFree.of_bodyS (code := cc) (maxLocals := maxL) (ret := ret) hy ?_ ?_
  · intro args s m h hn
    obtain ⟨m9, meth, c, hn9, h1, h2, h3, h4, -, h5, h6, -⟩ := Cond.codeWith_spec (atoms_spec (ws := ws) h _ (by rw [hw]; exact List.mem_cons_self))
    cases hn.symm.trans hn9
    exact ⟨meth, c, h1, h2, h3, h4, h5, h6⟩
  · intro p e s m args below meth c s₁ B hml hP _
    have hh0 : s₁.heap = s.heap := by rw [B.state]; rfl
    obtain ⟨t, a1, o, b1, b2, b3⟩ := body p e s m args below meth c s₁ B hml hP s₁ hh0 (Stand.of_body B)
    exact ⟨t, o, a1, b1, b2, ⟨b3.1, b3.2⟩⟩
section ZH
variable {l : Launch} {Z : zT} {y : MethodName} {cc : ByteArray} {nL : Nat} {rm : Room} {av : List Value} {H : Heap} {A : Nat → Prop} {mc ms : Nat} {post : Option Value → Heap → Prop} {own : String}
theorem zMH.introI {ty : FieldType} {hh : List (Nat × Nat × Nat × Nat)} (hy : plainName y.cls = true ∧ y.cls = own) (hlen : (lg_sl av).length ≤ nL)
    (body : ∀ (p : Program) (e : Env) (s : State) (m : MethodId) (args : Array Value) (below : List Frame) (meth : Method) (c : Code) (Q : State → Prop) (ls : Array Slot), s.heap = H → zC Z A p s m args meth c cc nL own (some ty) → c.exceptionTable.toList = tableOf hh → lv_has ls nL (lv_args 0 av) →
      (∀ (pc : Nat) (ls : Array Slot) (H' : Heap) (locs : List Loc) (r : Int32), va_S A s.heap H' locs → post (some (.int r)) H' → narrow ty (.int r) = .int r → decode cc pc = .ok (.ireturn, 1) → W p l e rm s m args below meth c H' locs mc ms Q (F0 m pc ls [.int r])) →
      W p l e rm s m args below meth c H [] 0 0 Q (F0 m 0 ls [])) : zMH l Z y cc nL (some ty) hh rm av H A mc ms post := by
  refine z_ofWH (cc := cc) (maxL := nL) (ret := some ty) (hh := hh) hy.1 rfl ?_
  intro p e s m args below meth c s₁ B hml hv
  obtain ⟨rfl, hK, hE, hH⟩ := hv
  have hts := atoms_spec (ws := Cond.codeWith y cc nL (some ty) hh :: BIG) B.pre
  have hC : zC Z A p s m av.toArray meth c cc nL own (some ty) := ⟨B.exec, B.bytes, hml, by rw [← hy.2]; exact findClass_of_methodNamed B.named, fun w h => hts w (List.mem_cons_of_mem _ h), hK, B.notSynchronized, B.returns, hE⟩
  have htab := vx_table (x := y) B (hts _ List.mem_cons_self)
  have hl := lv_entry av (n := nL) hlen
  rw [lg_entry_eq]
  generalize (lg_sl av ++ List.replicate (nL - (lg_sl av).length) Slot.unset).toArray = ls at hl ⊢
  have hlk := B.notSynchronized
  have K := body p e s m av.toArray below meth c (MQ below (zQc post A) av.toArray s mc ms A) ls hH hC htab hl (fun pc ls H' locs r hS hp hn hd => W.zret B.exec B.bytes B.returns hn (fun t ht hW => ⟨⟨_, rfl, by rw [ht]; exact hp⟩, va_S.F hS ht⟩) hS.2.2 hd hlk)
  rw [hH]
  exact K
end ZH
section ZCT
variable {p : Program} {l : Launch} {e : Env} {R : Room} {s : State} {m : MethodId} {args : Array Value} {below : List Frame} {meth : Method} {c : Code} {H : Heap} {locs : List Loc} {cells slots : Nat} {Q : State → Prop}
variable {Z : zT} {A : Nat → Prop} {cc : ByteArray} {nL : Nat} {own : String} {ret : Option FieldType} {pc : Nat} {ls : Array Slot} {rest : List Value}
/-- thrown here, and caught here by its own class -/
theorem z_catch (C : zC Z A p s m args meth c cc nL own ret) {q : Nat} {ce : Cell} {hd : Nat} (x : ExceptionTableEntry) (htab : c.exceptionTable.toList = [x]) (hx : covers x pc = true) (h0 : x.catchType ≠ 0) (hh : x.handlerPc = hd) (hlink : Cond.classLink own x.catchType zE ∈ BIG) (hcell : H[q]? = some ce) (hv : ce.vm = .none) (hcl : s.vm.findClass zE = some ce.cls)
    (kk : W p l e R s m args below meth c H locs cells slots Q (F0 m hd ls [.ref q])) : vx_W p l e R s m args below meth c H locs cells slots Q (F0 m pc ls rest) q := by
  subst hh
  intro T hT X
  have hpl : e.platform.magicAccessors = ({} : Platform).magicAccessors := by rw [X.admits.platform]
  obtain ⟨c5, hc5, hcl5⟩ := Cond.classLink_spec C.2.2.2.1 (C.2.2.2.2.1 _ hlink) e.platform hpl
  cases Option.some.inj (hcl.symm.trans hc5)
  obtain ⟨vm', X', st⟩ := X.thenCaughtThrough q (g := F0 m pc ls rest) rfl (Steps.refl _) (by rw [hT]; exact hcell) (by rw [hv]; rfl) (by obtain ⟨k9, h9, -⟩ := Vm.findClass_spec hcl; exact ⟨k9, h9⟩) [] x [] htab
    (fun z hz => absurd hz (by simp)) hx (Or.inr ⟨h0, ce.cls, hcl5, va_asg _ _⟩)
  obtain ⟨t, a1, b1⟩ := kk (T.setVm vm') hT X'
  exact ⟨t, st.trans a1, b1⟩
end ZCT
def DX : List Nat := [1, 4, 5, 6, 7, 8, 9, 10, 16, 17, 18, 21, 24, 31, 32, 33, 35, 37, 39, 42]
def EX : List Nat := [1, 4, 5, 6, 7, 8, 9, 10, 16, 17, 18, 21, 24, 31, 32, 33, 35, 37, 39, 42, 43, 44, 45, 46]
def EF : List Nat := [11, 12, 13, 14, 15, 20, 22, 23, 25, 26, 27, 28, 29, 30, 34, 36, 38, 40, 41, 47, 48, 49, 50, 51]
/-- what read() answers, and leaves -/
def mRead (Z : zT) (o : Nat) (ad : Nat → Nat) (F : Nat → Nat) (n : Nat) (σ : mS) (v : Option Value) (H : Heap) : Prop :=
  (∃ r w : Nat, xFile F n = some (r, w) ∧ v = some (zN r) ∧ ∃ σ' : mS, isM Z H o ad σ' ∧ chg DX RF σ σ' ∧ σ'.1 1 = zI 0 ∧ σ'.1 6 = zI (w : Int)) ∨
  (xFile F n = none ∧ v = some (zN 0) ∧ ∃ (σ' : mS) (tb : Nat → Nat) (cl nf nm : Nat) (mt : Nat → Nat) (fa last : Nat), xLay F n = .ok (tb, cl, nf, nm, mt, fa, last) ∧ isM Z H o ad σ' ∧ chg EX EF σ σ' ∧ σ'.1 1 = zI 0 ∧ σ'.1 6 = zI (-1) ∧ nf ≤ 24 ∧ nm ≤ 24 ∧ mKeep F tb mt nf nm cl σ')
theorem xRest_9 {F : Nat → Nat} {n cl nf nm fa last : Nat} {tb mt : Nat → Nat} (h : xRest F n tb cl nf nm mt fa last = none) : x6 F tb (U2 F 8) = none ∧ x7 F mt cl (nf + nm) = none ∧ x8 F tb (U2 F 8) cl = none ∧ x9 F tb (U2 F 8) mt (nf + nm) fa = none ∧ x10 F tb (U2 F 8) mt nf (nf + nm) = none ∧ x11 F tb mt nf (nf + nm) = none ∧ x12 F tb mt nf (nf + nm) = none ∧ last = n ∧ fst2 (x13f F tb mt nf) nm 0 = none ∧ fst1 (x15f F tb mt nf) nm 0 = none ∧ fst1 (x16f F tb mt cl nf nm) nm 0 = none := by
  have T : ∀ {r : Nat} {x : Option Nat}, t1 r x = none → x = none := by
    intro r x h
    cases x with
    | none => rfl
    | some q => exact absurd h (by simp [t1])
  have O : ∀ {a b : Option E2}, a.or b = none → a = none ∧ b = none := by intro a b h; cases a <;> simp_all
  unfold xRest at h
  obtain ⟨h6, h⟩ := O h
  obtain ⟨h7, h⟩ := O h
  obtain ⟨h8, h⟩ := O h
  obtain ⟨h9, h⟩ := O h
  obtain ⟨h10, h⟩ := O h
  unfold xR5 at h
  obtain ⟨h11, h⟩ := O h
  obtain ⟨h12, h⟩ := O h
  obtain ⟨h17, h⟩ := O h
  unfold xR6 at h
  obtain ⟨h13, h⟩ := O h
  obtain ⟨h15, h16⟩ := O h
  refine ⟨T h6, T h7, T h8, T h9, T h10, T h11, T h12, ?_, h13, T h15, T h16⟩
  have := T h17
  split at this
  · assumption
  · exact absurd this (by simp)

set_option maxHeartbeats 4000000 in
set_option maxRecDepth 20000 in
theorem c_X12_read (l : Launch) (Z : zT) {H : Heap} {o : Nat} {ad : Nat → Nat} {σ : mS} (hM : isM Z H o ad σ) {F : Nat → Nat} {n : Nat} (hF : isF F) (htr : ∀ j, j < n → σ.2.1 0 j = zI (sb (F j))) (hn : n ≤ 16000) (hn1 : σ.1 1 = zI (n : Int)) : zMH l Z yX12_read cX12_read 2 (some .int) [(26, 30, 33, 13)] (rmk 12) [.ref o] H (mA o ad) 0 0 (fun v H' => mRead Z o ad F n σ v H') := by
  refine zMH.introI (own := RX12) ⟨by decide, rfl⟩ (Nat.le_of_ble_eq_true rfl) ?_
  intro p e s m args below meth c Q ls hH C htab hl hret
  have hS : va_S (mA o ad) s.heap H [] := by rw [hH]; exact va_S.rf
  have hl : lv_has ls 2 [(0, .ref o)] := hl
  refine lv_aload_n C.1 C.2.1 dX12_read_0 rfl (lv_at hl 0 rfl) ?_
  refine lv_aload_n C.1 C.2.1 dX12_read_1 rfl (lv_at hl 0 rfl) ?_
  refine m_get C hM 0 (v := .ref (ad 0)) (by decide) zw_4_19 rfl rfl dX12_read_2 ?_
  refine m_put C hM 7 (sx σ 7 1) rfl rfl (by decide) zw_25_14 rfl rfl rfl rfl hS dX12_read_5 (fun H locs hM hS => ?_)
  refine lv_aload_n C.1 C.2.1 dX12_read_8 rfl (lv_at hl 0 rfl) ?_
  refine lv_aload_n C.1 C.2.1 dX12_read_9 rfl (lv_at hl 0 rfl) ?_
  refine m_get C hM 1 (v := .int ((sx σ 7 1).1 1)) (by decide) zw_6_20 rfl rfl dX12_read_10 ?_
  refine z_re (y := zI ((n : Nat) : Int)) hn1 ?_
  refine m_put C hM 8 (sx (sx σ 7 1) 8 (zI ((n : Nat) : Int))) rfl rfl (by decide) zw_25_15 rfl rfl rfl rfl hS dX12_read_13 (fun H locs hM hS => ?_)
  refine lv_aload_n C.1 C.2.1 dX12_read_16 rfl (lv_at hl 0 rfl) ?_
  refine lv_iconst (v := zI 0) C.1 C.2.1 dX12_read_17 (by decide) ?_
  refine m_put C hM 1 (sx (sx (sx σ 7 1) 8 (zI ((n : Nat) : Int))) 1 (zI 0)) rfl rfl (by decide) zw_6_20 rfl rfl rfl rfl hS dX12_read_18 (fun H locs hM hS => ?_)
  refine lv_aload_n C.1 C.2.1 dX12_read_21 rfl (lv_at hl 0 rfl) ?_
  refine lv_iconst (v := zI (-1)) C.1 C.2.1 dX12_read_22 (by decide) ?_
  refine m_put C hM 6 (sx (sx (sx (sx σ 7 1) 8 (zI ((n : Nat) : Int))) 1 (zI 0)) 6 (zI (-1))) rfl rfl (by decide) zw_4_21 rfl rfl rfl rfl hS dX12_read_23 (fun H locs hM hS => ?_)
  refine lv_aload_n C.1 C.2.1 dX12_read_26 rfl (lv_at hl 0 rfl) ?_
  have hB : mSrc (sx (sx (sx (sx σ 7 1) 8 (zI ((n : Nat) : Int))) 1 (zI 0)) 6 (zI (-1))) F n := ⟨hF, htr, rfl, hn⟩
  have hcr : chg [1, 6, 7, 8] [] σ (sx (sx (sx (sx σ 7 1) 8 (zI ((n : Nat) : Int))) 1 (zI 0)) 6 (zI (-1))) := (chg_sx (by decide) (chg_sx (by decide) (chg_sx (by decide) (chg_sx (by decide) chg.rf))))
  refine z_callVX C (As := []) (rest := []) (c_X12_rules l Z hM hB rfl) hM.1 rfl ⟨⟨zw_25_21, zw_1_5, zw_25_18⟩, zd_X12_rules⟩ zw_25_19 zw_25_20 ⟨Nat.le_of_ble_eq_true rfl, Nat.le_of_ble_eq_true rfl⟩ ⟨rfl, rfl⟩ rfl hl.1 rfl (Nat.le_of_ble_eq_true rfl) dX12_read_27 ⟨Nat.zero_le _, Nat.zero_le _⟩ hS (fun _ h => h) (fun H9 locs9 q9 ce9 hp9 hS9 _ _ g1 g2 g3 => ?_) (fun v H locs hp hS _ _ => ?_)
  · obtain ⟨r9, w9, hw9, σ9, hM, h4, h5, hc9⟩ := hp9
    have hS := hS9
    refine z_catch C (hd := 33) ⟨26, 30, 33, 13⟩ htab rfl (by decide) rfl zw_4_16 g1 g2 g3 ?_
    refine lv_astore_n (lv' := [(1, .ref q9), (0, .ref o)]) C.1 C.2.1 dX12_read_33 rfl hl (by decide) rfl (fun ls hl => ?_)
    refine lv_aload_n C.1 C.2.1 dX12_read_34 rfl (lv_at hl 1 rfl) ?_
    refine lv_aload_n C.1 C.2.1 dX12_read_35 rfl (lv_at hl 1 rfl) ?_
    refine m_get C hM 5 (v := .int (σ9.1 5)) (by decide) zw_25_16 rfl rfl dX12_read_36 ?_
    refine z_re (y := zI ((w9 : Nat) : Int)) h5 ?_
    refine m_put C hM 6 (sx σ9 6 (zI ((w9 : Nat) : Int))) rfl rfl (by decide) zw_4_21 rfl rfl rfl rfl hS dX12_read_39 (fun H locs hM hS => ?_)
    refine lv_aload_n C.1 C.2.1 dX12_read_42 rfl (lv_at hl 1 rfl) ?_
    refine m_get C hM 4 (v := .int ((sx σ9 6 (zI ((w9 : Nat) : Int))).1 4)) (by decide) zw_25_17 rfl rfl dX12_read_43 ?_
    refine z_re (y := zI ((r9 : Nat) : Int)) h4 ?_
    exact hret _ _ _ _ (zI ((r9 : Nat) : Int)) hS (Or.inl ⟨r9, w9, hw9, rfl, _, hM, chg_sx (by decide) ((hcr.mono (by decide) (by decide)).tr (hc9.mono (by decide) (by decide))), (hc9.1 1 (by decide)), rfl⟩) rfl dX12_read_46
  obtain ⟨rfl, σ1, tb, cl, nf, nm, mt, fa, last, hx, hxn, hM, hc1, hL, hN⟩ := hp
  have hB := hB.chg hc1 (by decide) (by decide)
  have hxr := xRest_9 ((xFile_ok hx).symm.trans hxn)
  refine lv_goto (tgt := 47) C.1 C.2.1 dX12_read_30 (by decide) ?_
  refine lv_aload_n C.1 C.2.1 dX12_read_47 rfl (lv_at hl 0 rfl) ?_
  refine z_callV C (As := []) (rest := []) (c_X12_keep l Z hM hB hL hxr.2.2.2.1 hxr.2.2.2.2.1 hN) hM.1 rfl ⟨⟨zw_35_16, zw_1_5, zw_35_13⟩, zd_X12_keep⟩ zw_35_14 zw_35_15 ⟨Nat.le_of_ble_eq_true rfl, Nat.le_of_ble_eq_true rfl⟩ ⟨rfl, rfl⟩ rfl hl.1 rfl (Nat.le_of_ble_eq_true rfl) dX12_read_48 ⟨Nat.zero_le _, Nat.zero_le _⟩ hS (fun _ h => h) (fun v H locs hp hS _ _ => ?_)
  obtain ⟨rfl, σ2, hM, hc2, hK⟩ := hp
  refine lv_iconst (v := zI 0) C.1 C.2.1 dX12_read_51 (by decide) ?_
  exact hret _ _ _ _ (zI 0) hS (Or.inr ⟨hxn, rfl, σ2, tb, cl, nf, nm, mt, fa, last, hx, hM, (hcr.mono (by decide) (by decide)).tr ((hc1.mono (by decide) (by decide)).tr (hc2.mono (by decide) (by decide))), (hc2.1 1 (by decide)).trans (hc1.1 1 (by decide)), (hc2.1 6 (by decide)).trans (hc1.1 6 (by decide)), hL.2.2.2.2.2.2.2.2.1, hL.2.2.2.2.2.2.2.2.2.1, hK⟩) rfl dX12_read_52
