/-! THE CLAIM OUT OF ONE WALK OF THE LAW'S BODY. Your part is whole_start (and what it stands on); all else here is the same for every law, but numbers. -/
def R_law : String := "FileRulesLaw"
def lw_P (b : Addr) (xs : List Int32) (args : Array Value) (s : State) : Prop := args = #[.ref b] ∧ s.IntsAt b xs ∧ xs.length ≤ 3072 ∧ (Jvm.Cond.and given_1 narrow_1).before args s = true
def lw_Q (_ : Array Value) (s : State) (o : Outcome) (t : State) : Prop := o = .returned (some (.int 1)) ∧ Framed s o t [] 601024 7293034
def lw_Z (below : List Frame) (a : Array Value) (s : State) : State → Prop := fun t => ∃ o, t.status = .running ∧ Ended t below o ∧ lw_Q a s o t
/-- the law's own end, with 1 on the stack, nothing written that was there before, its room as the claim has it -/
theorem lw_ret {p : Program} {l : Launch} {e : Env} {s : State} {m : MethodId} {below : List Frame} {meth : Method} {c : Code} {b : Nat} (hx : p.tables.exec = Jvm.exec) (hb : c.code = code) (hr : meth.sig.returnType = ret) (hlocks : meth.locks = false) {pc : Nat} {H : Heap} {ls : Array Slot} (hdg : decode code pc = .ok (.ireturn, 1)) : W p l e room_1 s m #[Value.ref b] below meth c H [] 601024 7293034 (lw_Z below #[Value.ref b] s) (F0 m pc ls [.int 1]) := by
  intro T hT X
  obtain ⟨fs, hret, hrun, hended, hW, hframe⟩ := X.leave (v := some (.int 1)) (hlocks := hlocks) (fun h => by rw [hr] at h; cases h)
  have hmeth' : T.vm.method? m = some meth := X.method'
  refine ⟨T.setFrames fs, ?_, .returned (some (.int 1)), hrun, hended, rfl, ⟨_, rfl⟩, hW, hframe⟩
  jvm_step X.here [X.here.top, hx, hb, hdg, hmeth', hr, ret, narrow_b1]
  (try refine ⟨rfl, ?_⟩); (try refine ⟨rfl, ?_⟩)
  first | (intro acts; rw [hret _ acts rfl rfl rfl]) | rw [hret _ _ rfl rfl rfl]
  exact Steps.refl _
/-- what holds at the law's entry: the machine, the code, the tables' words (any of lw_tbl by 'hts w (by decide +kernel)'), the script of L ints xs at the cell b, what the Statement gives of the start (any of its parts by flat_of_before) -/
def lw_At (p : Program) (s : State) (m : MethodId) (meth : Method) (c : Code) (b L : Nat) (xs : Nat → Int32) : Prop :=
  p.tables.exec = Jvm.exec ∧ c.code = code ∧ meth.sig.returnType = ret ∧ c.maxLocals = 4 ∧ s.vm.findClass R_law = some m.cls ∧ (∀ w ∈ lw_tbl, w.before #[Value.ref b] s = true) ∧ va_X b L xs s s.heap ∧ b < s.heap.size ∧ meth.locks = false ∧ (Jvm.Cond.and given_1 narrow_1).before #[Value.ref b] s = true
/-! the law's own context -/
abbrev AH (s : State) : Nat → Prop := fun q => s.heap.size ≤ q
abbrev lwG : Cond := Jvm.Cond.and given_1 narrow_1
abbrev flatG : List Cond := flatC lwG
section LC
variable {s : State} {b : Nat}
theorem lw_T {tm : Term} {N : Nat} {f : Nat → Int32} {ty : FieldType} (hN : N < 2 ^ 31) (h1 : (Cond.arrayOf tm ty).before #[Value.ref b] s = true) (h2 : (Cond.eq (.length tm) (.int (Int32.ofNat N))).before #[Value.ref b] s = true) (h3 : ∀ j : Nat, j < N → (Cond.eq (.elem tm (.int (Int32.ofNat j))) (.int (f j))).before #[Value.ref b] s = true) : ∃ t : Nat, tm.eval #[Value.ref b] s none [] s = some (.ref t) ∧ va_T ty t N (fun j => .int (f j)) (AH s) s s.heap := by
  refine va_Tof hN h1 ?_ (fun j hj => ?_) (fun a ha => Nat.not_le.mpr ha)
  · obtain ⟨y, e1, e2⟩ := Cond.eq_one h2
    cases e2
    exact e1
  · obtain ⟨y, e1, e2⟩ := Cond.eq_one (h3 j hj)
    cases e2
    exact e1

theorem lw_arr {ty : FieldType} (h : (Cond.arrayClass ty).before #[Value.ref b] s = true) : ∃ c : ClassId, ArrOfT s c ty ∧ s.vm.findClass ("[" ++ ty.toString) = some c := by
  obtain ⟨c, k, comp, h1, h2, h3⟩ := Cond.arrayClass_spec h
  exact ⟨c, fun N z => ⟨(fun k h => by cases h), k, h2, comp, h3⟩, h1⟩
theorem lw_arrO {C : String} (h : (Cond.arrayOver (.object C)).before #[Value.ref b] s = true) : ∃ c : ClassId, ArrOfT s c (.object C) ∧ va_RA s c (.object C) := by
  obtain ⟨comp, c, k, h1, h2, h3, h4, h5⟩ := Cond.arrayOver_spec h
  exact ⟨c, fun N z => ⟨(fun k h => by cases h), k, h3, comp, h4⟩, k, comp, h3, h4, h1, h5⟩

theorem lw_K (hts : ∀ w ∈ lw_tbl, w.before #[Value.ref b] s = true) (hb : ∀ w ∈ BIG, w.before #[Value.ref b] s = true) : ∃ (D : va_G) (ac : Nat → ClassId), ∀ (x y : Nat → Nat), zK (D, ac, x, y) s := by
  obtain ⟨c0, i0, k0⟩ := u_known (C := RJxb5711) (T := TJxb5711) (N := 0) (n := 6) hb bi_wsJxb57110 (hts (.instantiable RJxb5711 6) (by decide +kernel))
  obtain ⟨c1, i1, k1⟩ := u_known (C := RX0) (T := TX0) (N := 10) (n := 10) hb bi_wsX00 (hts (.instantiable RX0 10) (by decide +kernel))
  obtain ⟨c2, i2, k2⟩ := u_known (C := RX1) (T := TX1) (N := 2) (n := 2) hb bi_wsX10 (hts (.instantiable RX1 2) (by decide +kernel))
  obtain ⟨c3, i3, k3⟩ := u_known (C := RX2) (T := TX2) (N := 11) (n := 11) hb bi_wsX20 (hts (.instantiable RX2 11) (by decide +kernel))
  obtain ⟨c4, i4, k4⟩ := u_known (C := RX7) (T := TX7) (N := 9) (n := 9) hb bi_wsX70 (hts (.instantiable RX7 9) (by decide +kernel))
  obtain ⟨c5, i5, k5⟩ := u_known (C := RX8) (T := TX8) (N := 4) (n := 4) hb bi_wsX80 (hts (.instantiable RX8 4) (by decide +kernel))
  obtain ⟨c6, i6, k6⟩ := u_known (C := RX10) (T := TX10) (N := 2) (n := 2) hb bi_wsX100 (hts (.instantiable RX10 2) (by decide +kernel))
  obtain ⟨c7, i7, k7⟩ := u_known (C := RX11) (T := TX11) (N := 5) (n := 5) hb bi_wsX110 (hts (.instantiable RX11 5) (by decide +kernel))
  obtain ⟨c8, i8, k8⟩ := u_known (C := RX12) (T := TX12) (N := 52) (n := 52) hb bi_wsX120 (hts (.instantiable RX12 52) (by decide +kernel))
  obtain ⟨a0, x0, y0⟩ := lw_arr (hts (.arrayClass .byte) (by decide +kernel))
  obtain ⟨a1, x1, y1⟩ := lw_arr (hts (.arrayClass .int) (by decide +kernel))
  obtain ⟨a2, x2, y2⟩ := lw_arr (hts (.arrayClass .long) (by decide +kernel))
  obtain ⟨a3, x3, y3⟩ := lw_arrO (hts (.arrayOver (.object "FileRules$Body")) (by decide +kernel))
  refine ⟨(fun k => match k with | 0 => c0 | 1 => c1 | 2 => c2 | 3 => c3 | 4 => c4 | 5 => c5 | 6 => c6 | 7 => c7 | _ => c8, fun k => match k with | 0 => i0 | 1 => i1 | 2 => i2 | 3 => i3 | 4 => i4 | 5 => i5 | 6 => i6 | 7 => i7 | _ => i8), fun k => match k with | 0 => a0 | 1 => a1 | 2 => a2 | _ => a3, fun x y => ⟨fun k q hq => ?_, fun k q hq => ?_⟩⟩
  · match k, hq with
    | 0, hq => cases hq; exact k0
    | 1, hq => cases hq; exact k1
    | 2, hq => cases hq; exact k2
    | 3, hq => cases hq; exact k3
    | 4, hq => cases hq; exact k4
    | 5, hq => cases hq; exact k5
    | 6, hq => cases hq; exact k6
    | 7, hq => cases hq; exact k7
    | 8, hq => cases hq; exact k8
    | k + 9, hq => simp [vwCl] at hq
  · match k, hq with
    | 0, hq => cases hq; exact ⟨x0, y0⟩
    | 1, hq => cases hq; exact ⟨x1, y1⟩
    | 2, hq => cases hq; exact ⟨x2, y2⟩
    | 3, hq => cases hq; exact ⟨x3, y3⟩
    | k + 4, hq => simp [zTy] at hq
def lwS : Nat → Term := fun i => match i with
  | 0 => .string "FileRulesModel" 226
  | 1 => .string "FileRulesModel" 331
  | 2 => .string "FileRulesModel" 333
  | 3 => .string "FileRulesModel" 335
  | _ => .string "FileRulesModel" 337
theorem lw_len : (flatG.drop 23).take 201 = (List.range 201).map (fun j => Cond.eq (.elem (.static "FileRules$Instructions" "LENGTHS" "[I") (.int (Int32.ofNat j))) (.int (zI (lens j : Int)))) := by decide +kernel
theorem lw_env (hts : ∀ w ∈ lw_tbl, w.before #[Value.ref b] s = true) (hgv : lwG.before #[Value.ref b] s = true) (D : va_G) (ac : Nat → ClassId) : ∃ (x y : Nat → Nat), zEnv (D, ac, x, y) (AH s) s s.heap := by
  have hs := flat_of_before _ hgv
  have hA : ∀ a : Nat, a < s.heap.size → ¬ AH s a := fun a ha => Nat.not_le.mpr ha
  obtain ⟨adK, adV, hS, hev⟩ := vk_Sof (args := #[Value.ref b]) (s := s) (N := 5) (tm := lwS) (len := zSL) (byt := zSB) (A := AH s) (by decide)
    (fun i hi => hs _ ((by decide +kernel : ∀ i, i < 5 → Cond.exactly (lwS i) "java/lang/String" ∈ flatG) i hi))
    (fun i hi => hs _ ((by decide +kernel : ∀ i, i < 5 → Cond.eq (.field (lwS i) "java/lang/String" "coder" "B") (.int 0) ∈ flatG) i hi))
    (fun i hi => hs _ ((by decide +kernel : ∀ i, i < 5 → Cond.arrayOf (.field (lwS i) "java/lang/String" "value" "[B") .byte ∈ flatG) i hi))
    (fun i hi => hs _ ((by decide +kernel : ∀ i, i < 5 → Cond.eq (.length (.field (lwS i) "java/lang/String" "value" "[B")) (.int (Int32.ofNat (zSL.getD i 0))) ∈ flatG) i hi))
    (fun i hi j hj => hs _ ((by decide +kernel : ∀ i, i < 5 → ∀ j, j < zSL.getD i 0 → Cond.eq (.elem (.field (lwS i) "java/lang/String" "value" "[B") (.int (Int32.ofNat j))) (.int ((zSB.getD i []).getD j 0)) ∈ flatG) i hi j hj))
    (fun i j hi hj hne => ((by decide +kernel : ∀ i, i < 5 → ∀ j, j < 5 → i ≠ j → Cond.not (Cond.eq (lwS i) (lwS j)) ∈ flatG ∨ Cond.not (Cond.eq (lwS j) (lwS i)) ∈ flatG) i hi j hj hne).imp (fun h => hs _ h) (fun h => hs _ h)) hA
  have he : ∀ i, i < 5 → ∀ (o : String) (k : Nat), Cond.eq (.string o k) (lwS i) ∈ flatG → (Term.string o k).eval #[Value.ref b] s none [] s = some (.ref (adK i)) := fun i hi o k hm => by
    obtain ⟨y, e1, e2⟩ := Cond.eq_one (hs _ hm)
    rw [hev i hi] at e2
    cases e2
    exact e1
  obtain ⟨t1, f1, g1⟩ := lw_T (s := s) (b := b) (tm := .static "FileRules$Layout" "HEAD" "[I") (ty := .int) (N := 8) (f := fun j => zI (hd j : Int)) (by decide) (hs _ (by decide +kernel)) (hs _ (by decide +kernel)) (fun j hj => hs _ ((by decide +kernel : ∀ j, j < 8 → Cond.eq (.elem (.static "FileRules$Layout" "HEAD" "[I") (.int (Int32.ofNat j))) (.int (zI (hd j : Int))) ∈ flatG) j hj))
  obtain ⟨t2, f2, g2⟩ := lw_T (s := s) (b := b) (tm := .static "FileRules$Instructions" "LENGTHS" "[I") (ty := .int) (N := 201) (f := fun j => zI (lens j : Int)) (by decide) (hs _ (by decide +kernel)) (hs _ (by decide +kernel)) (fun j hj => hs _ (List.mem_of_mem_drop (List.mem_of_mem_take (by rw [lw_len]; exact List.mem_map.mpr ⟨j, List.mem_range.mpr hj, rfl⟩))))
  have hc : (Term.static "java/lang/String" "COMPACT_STRINGS" "Z").eval #[Value.ref b] s none [] s = some (.int 1) := by
    obtain ⟨y, e1, e2⟩ := Cond.eq_one (hs (Cond.eq (.static "java/lang/String" "COMPACT_STRINGS" "Z") (.int 1)) (by decide +kernel))
    cases e2
    exact e1
  refine ⟨adK, adV, hS, ⟨vk_R.of (hts _ (by decide +kernel)) (hev 0 (by decide)), vk_R.of (hts _ (by decide +kernel)) (hev 1 (by decide)), vk_R.of (hts _ (by decide +kernel)) (hev 2 (by decide)), vk_R.of (hts _ (by decide +kernel)) (hev 3 (by decide)), vk_R.of (hts _ (by decide +kernel)) (hev 4 (by decide)), vk_R.of (hts _ (by decide +kernel)) (he 0 (by decide) _ _ (by decide +kernel)), vk_R.of (hts _ (by decide +kernel)) (he 1 (by decide) _ _ (by decide +kernel)), vk_R.of (hts _ (by decide +kernel)) (he 2 (by decide) _ _ (by decide +kernel)), vk_R.of (hts _ (by decide +kernel)) (he 3 (by decide) _ _ (by decide +kernel)), vk_R.of (hts _ (by decide +kernel)) (he 4 (by decide) _ _ (by decide +kernel)), fun w hw => va_Nw.of rfl (hts _ ((by decide +kernel : ∀ w ∈ zNest, Cond.methodLinkNest w.1 w.2.1 w.2.2 "FileRules" ∈ lw_tbl) w hw)), va_AO.of (hts _ (by decide +kernel)), va_Nw.of rfl (hts _ (by decide +kernel)), va_Nw.of rfl (hts _ (by decide +kernel)), va_Nw.of rfl (hts _ (by decide +kernel)), va_Nw.of rfl (hts _ (by decide +kernel))⟩, va_Zof (hts _ (by decide +kernel)) (hts _ (by decide +kernel)) hc hA, ⟨va_Zqof (hts _ (by decide +kernel)) (hts _ (by decide +kernel)) (hs _ (by decide +kernel)) hA, vx_Zqof (hts _ (by decide +kernel)) (hts _ (by decide +kernel)) (hs _ (by decide +kernel)) hA, vx_Zqof (hts _ (by decide +kernel)) (hts _ (by decide +kernel)) (hs _ (by decide +kernel)) hA⟩, ⟨t1, va_Zof (hts _ (by decide +kernel)) (hts _ (by decide +kernel)) f1 hA, g1⟩, ⟨t2, va_Zof (hts _ (by decide +kernel)) (hts _ (by decide +kernel)) f2 hA, g2⟩⟩

theorem law_Z {p : Program} {m : MethodId} {meth : Method} {c : Code} {L : Nat} {xs : Nat → Int32} (C0 : lw_At p s m meth c b L xs) : ∃ Z : zT, zC Z (AH s) p s m #[Value.ref b] meth c code 4 R_law ret := by
  obtain ⟨hx, hb, hr, hml, hown, hts, hX, hbl, hlocks, hgv⟩ := C0
  have hB : ∀ w ∈ BIG, w.before #[Value.ref b] s = true := fun w h => hts w (big_tbl w h)
  obtain ⟨D, ac, hK⟩ := lw_K hts hB
  obtain ⟨x, y, hE⟩ := lw_env hts hgv D ac
  exact ⟨(D, ac, x, y), hx, hb, hml, hown, hB, hK x y, hlocks, hr, hE⟩
end LC

