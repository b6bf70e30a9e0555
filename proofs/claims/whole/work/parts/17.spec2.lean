/-! the layout of a file, from the left: what is read, or the first break -/
abbrev E2 : Type := Nat × Nat
def xHead (F : Nat → Nat) (n : Nat) : Nat → Except E2 Unit
  | 0 => .ok ()
  | c + 1 => if n ≤ 7 - c then .error (2, n) else if F (7 - c) = hd (7 - c) then xHead F n c else .error (1, 7 - c)
def xLet (F : Nat → Nat) (n t : Nat) : Nat → Nat → Except E2 Nat
  | 0, q => .ok q
  | c + 1, q => if q + 1 ≤ n then (if 33 ≤ F q ∧ F q ≤ 126 then xLet F n t c (q + 1) else .error (4, t)) else .error (2, n)
def xName (F : Nat → Nat) (n q : Nat) : Except E2 Nat :=
  if q + 3 ≤ n then (if 1 ≤ U2 F (q + 1) ∧ U2 F (q + 1) ≤ 100 then xLet F n q (U2 F (q + 1)) (q + 3) else .error (4, q)) else .error (2, n)
def entLen (t : Nat) : Nat := if t = 3 ∨ t = 9 ∨ t = 10 ∨ t = 12 then 5 else if t = 5 then 9 else if t = 7 then 3 else 0
def xEnt (F : Nat → Nat) (n q : Nat) : Except E2 Nat :=
  if q + 1 ≤ n then (if F q = 1 then xName F n q else if entLen (F q) = 0 then .error (3, q) else if q + entLen (F q) ≤ n then .ok (q + entLen (F q)) else .error (2, n)) else .error (2, n)
def xPool (F : Nat → Nat) (n pc : Nat) : Nat → Nat → Nat → (Nat → Nat) → Except E2 (Nat × (Nat → Nat))
  | 0, _, q, tb => .ok (q, tb)
  | fu + 1, k, q, tb => if k < pc then (match xEnt F n q with
    | .error e => .error e
    | .ok q' => xPool F n pc fu (if F q = 5 then k + 2 else k + 1) q' (va_up tb k q)) else .ok (q, tb)
def xAtt (F : Nat → Nat) (n : Nat) : Nat → Nat → Except E2 Nat
  | 0, q => .ok q
  | c + 1, q => if q + 6 ≤ n then (if q + 6 + U4 F (q + 2) ≤ n then xAtt F n c (q + 6 + U4 F (q + 2)) else .error (2, n)) else .error (2, n)
def xAtts (F : Nat → Nat) (n q : Nat) : Except E2 Nat := if q + 2 ≤ n then xAtt F n (U2 F q) (q + 2) else .error (2, n)
def xMem (F : Nat → Nat) (n : Nat) : Nat → Nat → Nat → (Nat → Nat) → Except E2 (Nat × (Nat → Nat))
  | 0, q, _, mt => .ok (q, mt)
  | c + 1, q, i, mt => if q + 6 ≤ n then (match xAtts F n (q + 6) with
    | .error e => .error e
    | .ok q' => xMem F n c q' (i + 1) (va_up mt i q)) else .error (2, n)
def xMems (F : Nat → Nat) (n q i : Nat) (mt : Nat → Nat) : Except E2 (Nat × (Nat → Nat)) :=
  if q + 2 ≤ n then (if U2 F q ≤ 24 then xMem F n (U2 F q) (q + 2) i mt else .error (5, q)) else .error (2, n)
/-- the pool's places, the class's place, how many fields and methods, the members' places, the file's attributes, what is behind -/
abbrev lay : Type := (Nat → Nat) × Nat × Nat × Nat × (Nat → Nat) × Nat × Nat
def xLay3 (F : Nat → Nat) (n : Nat) (tb : Nat → Nat) (q q2 : Nat) : Except E2 (Nat × (Nat → Nat)) → Except E2 lay
  | .error e => .error e
  | .ok (q3, mt) => match xAtts F n q3 with
    | .error e => .error e
    | .ok q4 => .ok (tb, q, U2 F (q + 8), U2 F q2, mt, q3, q4)
def xLay2 (F : Nat → Nat) (n : Nat) (tb : Nat → Nat) (q : Nat) : Except E2 (Nat × (Nat → Nat)) → Except E2 lay
  | .error e => .error e
  | .ok (q2, mt) => xLay3 F n tb q q2 (xMems F n q2 (U2 F (q + 8)) mt)
def xLay1 (F : Nat → Nat) (n : Nat) : Except E2 (Nat × (Nat → Nat)) → Except E2 lay
  | .error e => .error e
  | .ok (q, tb) => if q + 8 ≤ n then xLay2 F n tb q (xMems F n (q + 8) 0 (fun _ => 0)) else .error (2, n)
def xLay0 (F : Nat → Nat) (n : Nat) : Except E2 lay :=
  if 10 ≤ n then (if 1 ≤ U2 F 8 ∧ U2 F 8 ≤ 500 then xLay1 F n (xPool F n (U2 F 8) 500 1 10 (fun _ => 0)) else .error (5, 8)) else .error (2, n)
def xLay (F : Nat → Nat) (n : Nat) : Except E2 lay := match xHead F n 8 with
  | .error e => .error e
  | .ok _ => xLay0 F n
/-- the tag of entry k, 0 where there is none -/
def tg (F : Nat → Nat) (tb : Nat → Nat) (k : Nat) : Nat := if tb k = 0 then 0 else F (tb k)
def isE (F : Nat → Nat) (tb : Nat → Nat) (pc k t : Nat) : Bool := decide (1 ≤ k ∧ k < pc ∧ tg F tb k = t)
def e1 (F : Nat → Nat) (tb : Nat → Nat) (k : Nat) : Nat := U2 F (tb k + 1)
def e2 (F : Nat → Nat) (tb : Nat → Nat) (k : Nat) : Nat := U2 F (tb k + 3)
/-- attribute i of the list at a -/
def atp (F : Nat → Nat) (a : Nat) : Nat → Nat
  | 0 => a + 2
  | i + 1 => atp F a i + 6 + U4 F (atp F a i + 2)
/-- how many attributes the members before i have -/
def abase (F : Nat → Nat) (mt : Nat → Nat) : Nat → Nat
  | 0 => 0
  | i + 1 => abase F mt i + U2 F (mt i + 6)
/-! what of the model's state changed -/
def chg (xs fs : List Nat) (σ σ' : mS) : Prop := (∀ k, k ∉ xs → σ'.1 k = σ.1 k) ∧ (∀ k, k ∉ fs → σ'.2.1 k = σ.2.1 k) ∧ (15 ∉ fs → σ'.2.2 = σ.2.2)
theorem chg.rf {xs fs : List Nat} {σ : mS} : chg xs fs σ σ := ⟨fun _ _ => rfl, fun _ _ => rfl, fun _ => rfl⟩
theorem chg.tr {xs fs : List Nat} {σ σ1 σ2 : mS} (h : chg xs fs σ σ1) (g : chg xs fs σ1 σ2) : chg xs fs σ σ2 := ⟨fun k hk => (g.1 k hk).trans (h.1 k hk), fun k hk => (g.2.1 k hk).trans (h.2.1 k hk), fun hk => (g.2.2 hk).trans (h.2.2 hk)⟩
theorem chg.mono {xs fs xs' fs' : List Nat} {σ σ' : mS} (h : chg xs fs σ σ') (h1 : ∀ k ∈ xs, k ∈ xs') (h2 : ∀ k ∈ fs, k ∈ fs') : chg xs' fs' σ σ' := ⟨fun k hk => h.1 k (fun z => hk (h1 k z)), fun k hk => h.2.1 k (fun z => hk (h2 k z)), fun hk => h.2.2 (fun z => hk (h2 15 z))⟩
theorem chg_sx {xs fs : List Nat} {σ σ' : mS} {k : Nat} {v : Int32} (hk : k ∈ xs) (h : chg xs fs σ σ') : chg xs fs σ (sx σ' k v) := ⟨fun j hj => (pk_un (show j ≠ k from fun z => hj (by rw [z]; exact hk))).trans (h.1 j hj), h.2.1, h.2.2⟩
theorem chg_sf {xs fs : List Nat} {σ σ' : mS} {k : Nat} {f : Nat → Int32} (hk : k ∈ fs) (h : chg xs fs σ σ') : chg xs fs σ (sf σ' k f) := ⟨h.1, fun j hj => (va_up_ne _ _ (show j ≠ k from fun z => hj (by rw [z]; exact hk))).trans (h.2.1 j hj), h.2.2⟩
theorem chg_sg {xs fs : List Nat} {σ σ' : mS} {g : Nat → Int64} (hk : 15 ∈ fs) (h : chg xs fs σ σ') : chg xs fs σ (sg σ' g) := ⟨h.1, h.2.1, fun z => absurd hk z⟩
theorem mSrc.chg {xs fs : List Nat} {σ σ' : mS} {F : Nat → Nat} {n : Nat} (hB : mSrc σ F n) (h : chg xs fs σ σ') (h7 : 7 ∉ xs) (h0 : 0 ∉ fs) : mSrc σ' F n := ⟨hB.1, fun j hj => by rw [h.2.1 0 h0]; exact hB.2.1 j hj, by rw [h.1 7 h7]; exact hB.2.2.1, hB.2.2.2⟩
/-- where the model has thrown: the rule and the place are told -/
def mBrk (Z : zT) (o : Nat) (ad : Nat → Nat) (xs fs : List Nat) (σ : mS) (r q : Nat) (H : Heap) : Prop := ∃ σ' : mS, isM Z H o ad σ' ∧ σ'.1 4 = zI (r : Int) ∧ σ'.1 5 = zI (q : Int) ∧ chg xs fs σ σ'
theorem mBrk.tr {Z : zT} {o : Nat} {ad : Nat → Nat} {xs fs : List Nat} {σ σ1 : mS} {r q : Nat} {H : Heap} (h : chg xs fs σ σ1) (g : mBrk Z o ad xs fs σ1 r q H) : mBrk Z o ad xs fs σ r q H := by
  obtain ⟨σ', g1, g2, g3, g4⟩ := g
  exact ⟨σ', g1, g2, g3, h.tr g4⟩
theorem mBrk.mono {Z : zT} {o : Nat} {ad : Nat → Nat} {xs fs xs' fs' : List Nat} {σ : mS} {r q : Nat} {H : Heap} (h : mBrk Z o ad xs fs σ r q H) (h1 : ∀ k ∈ xs, k ∈ xs') (h2 : ∀ k ∈ fs, k ∈ fs') : mBrk Z o ad xs' fs' σ r q H := by
  obtain ⟨σ', g1, g2, g3, g4⟩ := h
  exact ⟨σ', g1, g2, g3, g4.mono h1 h2⟩
theorem isM.exc {Z : zT} {H : Heap} {o : Nat} {ad : Nat → Nat} {σ : mS} {s : State} (h : isM Z H o ad σ) (hK : zK Z s) : ∃ ce : Cell, H[ad 3]? = some ce ∧ ce.vm = .none ∧ s.vm.findClass zE = some ce.cls := by
  obtain ⟨r, h1, cell, q1, q2, q3, q4⟩ := h.2.2.2.2.1
  have hr : r = (RJxb5711, TJxb5711, 0) := Option.some.inj (h1.symm.trans rfl)
  subst hr
  exact ⟨cell, q1, q3, by rw [q2]; exact (hK.1 0 _ rfl).2.1⟩
