/-! the component: an image, its bytes, its pool, its bodies, the verdict -/
def iF (ad : Nat → Nat) (τ : mS) : List Value := [.ref (ad 1), .ref (ad 3), .ref (ad 11), .ref (ad 12), .ref (ad 13), .ref (ad 14), .int (τ.1 2), .int (τ.1 3), .int (τ.1 4), .int (τ.1 5), .int (τ.1 6)]
def yF (ad : Nat → Nat) (τ : mS) : List Value := [.ref (ad 2), .int (τ.1 0)]
def pF (ad : Nat → Nat) (τ : mS) : List Value := [.ref (ad 1), .ref (ad 4), .ref (ad 5), .ref (ad 6), .ref (ad 7), .ref (ad 8), .ref (ad 9), .ref (ad 10), .int (τ.1 1)]
def vF (τ : mS) : List Value := [.int (τ.1 8), .int (τ.1 9)]
def bF (τ : mS) (m : Nat) : List Value := [.int (τ.2.1 20 m), .int (τ.2.1 21 m), .int (τ.2.1 22 m), .int (τ.2.1 23 m), .int (τ.2.1 24 m), .int (τ.2.1 25 m), .int (τ.2.1 26 m), .int (τ.2.1 27 m), .int (τ.2.1 28 m), .int (τ.2.1 29 m)]
def cIdx : List Nat := [4, 5, 6, 7, 8, 9, 10, 11, 12, 14]
def cLen : Nat → Nat := fun k => if k ≤ 10 then 500 else if k ≤ 12 then 24 else 16000
def bRf (ad : Nat → Nat) : Nat → Option Nat := fun m => some (ad (16 + m))
/-- the component's world: X are cells that stay -/
def isC (Z : zT) (H : Heap) (ad : Nat → Nat) (τ : mS) (X : List (Nat × va_E)) : Prop :=
  zAt Z H (ad 0) (.inr (3, iF ad τ)) ∧ zAt Z H (ad 1) (.inr (2, yF ad τ)) ∧ zAt Z H (ad 2) (.inl (Z.2.1 0, (16000, .inl (τ.2.1 2)))) ∧ zAt Z H (ad 3) (.inr (4, pF ad τ)) ∧ (∀ k ∈ cIdx, zAt Z H (ad k) (.inl (Z.2.1 1, (cLen k, .inl (τ.2.1 k))))) ∧
  zAt Z H (ad 13) (.inl (Z.2.1 3, (24, .inr (.inr (.inr (.inr (bRf ad))))))) ∧ zAt Z H (ad 15) (.inr (6, vF τ)) ∧ (∀ m, m < 24 → zAt Z H (ad (16 + m)) (.inr (1, bF τ m))) ∧ (∀ i, i < 40 → ∀ j, j < 40 → ad i = ad j → i = j) ∧ ∀ q ∈ X, zAt Z H q.1 q.2 ∧ ∀ i, i < 40 → ad i ≠ q.1
def cA (ad : Nat → Nat) : Nat → Prop := fun q => ∃ i, i < 40 ∧ q = ad i
theorem cA.k {ad : Nat → Nat} (i : Nat) (h : i < 40) : cA ad (ad i) := ⟨i, h, rfl⟩
theorem cIdx_lt {k : Nat} (h : k ∈ cIdx) : 4 ≤ k ∧ k < 15 ∧ k ≠ 13 := by
  refine ⟨?_, ?_, ?_⟩
  · revert k; decide
  · revert k; decide
  · rintro rfl; revert h; decide
section CG
variable {Z : zT} {H H1 : Heap} {ad : Nat → Nat} {τ τ' : mS} {X : List (Nat × va_E)}
theorem isC.img (h : isC Z H ad τ X) : zAt Z H (ad 0) (.inr (3, iF ad τ)) := h.1
theorem isC.byt (h : isC Z H ad τ X) : zAt Z H (ad 1) (.inr (2, yF ad τ)) := h.2.1
theorem isC.row0 (h : isC Z H ad τ X) : zAt Z H (ad 2) (.inl (Z.2.1 0, (16000, .inl (τ.2.1 2)))) := h.2.2.1
theorem isC.pol (h : isC Z H ad τ X) : zAt Z H (ad 3) (.inr (4, pF ad τ)) := h.2.2.2.1
theorem isC.row (h : isC Z H ad τ X) (k : Nat) (hk : k ∈ cIdx) : zAt Z H (ad k) (.inl (Z.2.1 1, (cLen k, .inl (τ.2.1 k)))) := h.2.2.2.2.1 k hk
theorem isC.bds (h : isC Z H ad τ X) : zAt Z H (ad 13) (.inl (Z.2.1 3, (24, .inr (.inr (.inr (.inr (bRf ad))))))) := h.2.2.2.2.2.1
theorem isC.ver (h : isC Z H ad τ X) : zAt Z H (ad 15) (.inr (6, vF τ)) := h.2.2.2.2.2.2.1
theorem isC.bod (h : isC Z H ad τ X) (m : Nat) (hm : m < 24) : zAt Z H (ad (16 + m)) (.inr (1, bF τ m)) := h.2.2.2.2.2.2.2.1 m hm
theorem isC.inj (h : isC Z H ad τ X) {i j : Nat} (hi : i < 40) (hj : j < 40) (e : i ≠ j) : ad i ≠ ad j := fun z => e (h.2.2.2.2.2.2.2.2.1 i hi j hj z)
theorem isC.ex (h : isC Z H ad τ X) {q : Nat × va_E} (hq : q ∈ X) : zAt Z H q.1 q.2 := (h.2.2.2.2.2.2.2.2.2 q hq).1
theorem isC.ex' (h : isC Z H ad τ X) {a : Nat} {e : va_E} (hq : (a, e) ∈ X) : zAt Z H a e := (h.2.2.2.2.2.2.2.2.2 _ hq).1
/-- one cell is another: the rest of the world stays -/
theorem isC.put (h : isC Z H ad τ X) (i : Nat) (hi : i < 40) (u : zUp H H1 (ad i))
    (e0 : i ≠ 0 → iF ad τ' = iF ad τ) (e1 : i ≠ 1 → yF ad τ' = yF ad τ) (e2 : i ≠ 2 → τ'.2.1 2 = τ.2.1 2) (e3 : i ≠ 3 → pF ad τ' = pF ad τ) (e4 : ∀ k ∈ cIdx, k ≠ i → τ'.2.1 k = τ.2.1 k) (e5 : i ≠ 13) (e6 : i ≠ 15 → vF τ' = vF τ) (e7 : ∀ m, 16 + m ≠ i → bF τ' m = bF τ m)
    (n0 : i = 0 → zAt Z H1 (ad 0) (.inr (3, iF ad τ'))) (n1 : i = 1 → zAt Z H1 (ad 1) (.inr (2, yF ad τ'))) (n2 : i = 2 → zAt Z H1 (ad 2) (.inl (Z.2.1 0, (16000, .inl (τ'.2.1 2))))) (n3 : i = 3 → zAt Z H1 (ad 3) (.inr (4, pF ad τ'))) (n4 : i ∈ cIdx → zAt Z H1 (ad i) (.inl (Z.2.1 1, (cLen i, .inl (τ'.2.1 i))))) (n6 : i = 15 → zAt Z H1 (ad 15) (.inr (6, vF τ'))) (n7 : ∀ m, m < 24 → 16 + m = i → zAt Z H1 (ad (16 + m)) (.inr (1, bF τ' m))) : isC Z H1 ad τ' X := by
  have K : ∀ j, j < 40 → i ≠ j → H1[ad j]? = H[ad j]? := fun j hj e => u.2 _ (h.inj hj hi (Ne.symm e))
  refine ⟨?_, ?_, ?_, ?_, fun k hk => ?_, ?_, ?_, fun m hm => ?_, h.2.2.2.2.2.2.2.2.1, fun q hq => ?_⟩
  · by_cases e : i = 0
    · exact n0 e
    · rw [e0 e]; exact h.img.kept (K 0 (by omega) e)
  · by_cases e : i = 1
    · exact n1 e
    · rw [e1 e]; exact h.byt.kept (K 1 (by omega) e)
  · by_cases e : i = 2
    · exact n2 e
    · rw [e2 e]; exact h.row0.kept (K 2 (by omega) e)
  · by_cases e : i = 3
    · exact n3 e
    · rw [e3 e]; exact h.pol.kept (K 3 (by omega) e)
  · by_cases e : k = i
    · subst e; exact n4 hk
    · rw [e4 k hk e]; exact (h.row k hk).kept (K k (by have := cIdx_lt hk; omega) (Ne.symm e))
  · exact h.bds.kept (K 13 (by omega) e5)
  · by_cases e : i = 15
    · exact n6 e
    · rw [e6 e]; exact h.ver.kept (K 15 (by omega) e)
  · by_cases e : 16 + m = i
    · exact n7 m hm e
    · rw [e7 m e]; exact (h.bod m hm).kept (K _ (by omega) (Ne.symm e))
  · obtain ⟨a1, a2⟩ := h.2.2.2.2.2.2.2.2.2 q hq
    exact ⟨u.at a1 (Ne.symm (a2 i hi)), a2⟩

theorem isC.sx0 (h : isC Z H ad τ X) {v : Int32} (u : zUp H H1 (ad 1)) (n : zAt Z H1 (ad 1) (.inr (2, (yF ad τ).set 1 (.int v)))) : isC Z H1 ad (sx τ 0 v) X :=
  h.put 1 (by decide) u (fun _ => rfl) (fun z => absurd rfl z) (fun _ => rfl) (fun _ => rfl) (fun _ _ _ => rfl) (by decide) (fun _ => rfl) (fun _ _ => rfl) (fun z => absurd z (by decide)) (fun _ => n) (fun z => absurd z (by decide)) (fun z => absurd z (by decide)) (fun z => absurd z (by decide)) (fun z => absurd z (by decide)) (fun m _ z => absurd z (by omega))
theorem isC.sx1 (h : isC Z H ad τ X) {v : Int32} (u : zUp H H1 (ad 3)) (n : zAt Z H1 (ad 3) (.inr (4, (pF ad τ).set 8 (.int v)))) : isC Z H1 ad (sx τ 1 v) X :=
  h.put 3 (by decide) u (fun _ => rfl) (fun _ => rfl) (fun _ => rfl) (fun z => absurd rfl z) (fun _ _ _ => rfl) (by decide) (fun _ => rfl) (fun _ _ => rfl) (fun z => absurd z (by decide)) (fun z => absurd z (by decide)) (fun z => absurd z (by decide)) (fun _ => n) (fun z => absurd z (by decide)) (fun z => absurd z (by decide)) (fun m _ z => absurd z (by omega))
theorem isC.sx2 (h : isC Z H ad τ X) {v : Int32} (u : zUp H H1 (ad 0)) (n : zAt Z H1 (ad 0) (.inr (3, (iF ad τ).set 6 (.int v)))) : isC Z H1 ad (sx τ 2 v) X :=
  h.put 0 (by decide) u (fun z => absurd rfl z) (fun _ => rfl) (fun _ => rfl) (fun _ => rfl) (fun _ _ _ => rfl) (by decide) (fun _ => rfl) (fun _ _ => rfl) (fun _ => n) (fun z => absurd z (by decide)) (fun z => absurd z (by decide)) (fun z => absurd z (by decide)) (fun z => absurd z (by decide)) (fun z => absurd z (by decide)) (fun m _ z => absurd z (by omega))
theorem isC.sx3 (h : isC Z H ad τ X) {v : Int32} (u : zUp H H1 (ad 0)) (n : zAt Z H1 (ad 0) (.inr (3, (iF ad τ).set 7 (.int v)))) : isC Z H1 ad (sx τ 3 v) X :=
  h.put 0 (by decide) u (fun z => absurd rfl z) (fun _ => rfl) (fun _ => rfl) (fun _ => rfl) (fun _ _ _ => rfl) (by decide) (fun _ => rfl) (fun _ _ => rfl) (fun _ => n) (fun z => absurd z (by decide)) (fun z => absurd z (by decide)) (fun z => absurd z (by decide)) (fun z => absurd z (by decide)) (fun z => absurd z (by decide)) (fun m _ z => absurd z (by omega))
theorem isC.sx4 (h : isC Z H ad τ X) {v : Int32} (u : zUp H H1 (ad 0)) (n : zAt Z H1 (ad 0) (.inr (3, (iF ad τ).set 8 (.int v)))) : isC Z H1 ad (sx τ 4 v) X :=
  h.put 0 (by decide) u (fun z => absurd rfl z) (fun _ => rfl) (fun _ => rfl) (fun _ => rfl) (fun _ _ _ => rfl) (by decide) (fun _ => rfl) (fun _ _ => rfl) (fun _ => n) (fun z => absurd z (by decide)) (fun z => absurd z (by decide)) (fun z => absurd z (by decide)) (fun z => absurd z (by decide)) (fun z => absurd z (by decide)) (fun m _ z => absurd z (by omega))
theorem isC.sx5 (h : isC Z H ad τ X) {v : Int32} (u : zUp H H1 (ad 0)) (n : zAt Z H1 (ad 0) (.inr (3, (iF ad τ).set 9 (.int v)))) : isC Z H1 ad (sx τ 5 v) X :=
  h.put 0 (by decide) u (fun z => absurd rfl z) (fun _ => rfl) (fun _ => rfl) (fun _ => rfl) (fun _ _ _ => rfl) (by decide) (fun _ => rfl) (fun _ _ => rfl) (fun _ => n) (fun z => absurd z (by decide)) (fun z => absurd z (by decide)) (fun z => absurd z (by decide)) (fun z => absurd z (by decide)) (fun z => absurd z (by decide)) (fun m _ z => absurd z (by omega))
theorem isC.sx6 (h : isC Z H ad τ X) {v : Int32} (u : zUp H H1 (ad 0)) (n : zAt Z H1 (ad 0) (.inr (3, (iF ad τ).set 10 (.int v)))) : isC Z H1 ad (sx τ 6 v) X :=
  h.put 0 (by decide) u (fun z => absurd rfl z) (fun _ => rfl) (fun _ => rfl) (fun _ => rfl) (fun _ _ _ => rfl) (by decide) (fun _ => rfl) (fun _ _ => rfl) (fun _ => n) (fun z => absurd z (by decide)) (fun z => absurd z (by decide)) (fun z => absurd z (by decide)) (fun z => absurd z (by decide)) (fun z => absurd z (by decide)) (fun m _ z => absurd z (by omega))
theorem isC.sx8 (h : isC Z H ad τ X) {v : Int32} (u : zUp H H1 (ad 15)) (n : zAt Z H1 (ad 15) (.inr (6, (vF τ).set 0 (.int v)))) : isC Z H1 ad (sx τ 8 v) X :=
  h.put 15 (by decide) u (fun _ => rfl) (fun _ => rfl) (fun _ => rfl) (fun _ => rfl) (fun _ _ _ => rfl) (by decide) (fun z => absurd rfl z) (fun _ _ => rfl) (fun z => absurd z (by decide)) (fun z => absurd z (by decide)) (fun z => absurd z (by decide)) (fun z => absurd z (by decide)) (fun z => absurd z (by decide)) (fun _ => n) (fun m _ z => absurd z (by omega))
theorem isC.sx9 (h : isC Z H ad τ X) {v : Int32} (u : zUp H H1 (ad 15)) (n : zAt Z H1 (ad 15) (.inr (6, (vF τ).set 1 (.int v)))) : isC Z H1 ad (sx τ 9 v) X :=
  h.put 15 (by decide) u (fun _ => rfl) (fun _ => rfl) (fun _ => rfl) (fun _ => rfl) (fun _ _ _ => rfl) (by decide) (fun z => absurd rfl z) (fun _ _ => rfl) (fun z => absurd z (by decide)) (fun z => absurd z (by decide)) (fun z => absurd z (by decide)) (fun z => absurd z (by decide)) (fun z => absurd z (by decide)) (fun _ => n) (fun m _ z => absurd z (by omega))
theorem isC.sfk (h : isC Z H ad τ X) {k : Nat} (hk : k ∈ cIdx) {f : Nat → Int32} (u : zUp H H1 (ad k)) (n : zAt Z H1 (ad k) (.inl (Z.2.1 1, (cLen k, .inl f)))) : isC Z H1 ad (sf τ k f) X := by
  obtain ⟨q1, q2, q3⟩ := cIdx_lt hk
  have B : ∀ m, bF (sf τ k f) m = bF τ m := fun m => by
    have E : ∀ j, 20 ≤ j → (sf τ k f).2.1 j = τ.2.1 j := fun j hj => va_up_ne _ _ (by omega)
    unfold bF
    rw [E 20 (by omega), E 21 (by omega), E 22 (by omega), E 23 (by omega), E 24 (by omega), E 25 (by omega), E 26 (by omega), E 27 (by omega), E 28 (by omega), E 29 (by omega)]
  refine h.put k (by omega) u (fun _ => rfl) (fun _ => rfl) (fun _ => va_up_ne _ _ (by omega)) (fun _ => rfl) (fun j _ e => va_up_ne _ _ e) q3 (fun _ => rfl) (fun m _ => B m) (fun z => absurd z (by omega)) (fun z => absurd z (by omega)) (fun z => absurd z (by omega)) (fun z => absurd z (by omega)) (fun _ => ?_) (fun z => absurd z (by omega)) (fun m _ z => absurd z (by omega))
  show zAt Z H1 (ad k) (.inl (Z.2.1 1, (cLen k, .inl (va_up τ.2.1 k f k))))
  rw [va_up_self]
  exact n
theorem isC.sf2 (h : isC Z H ad τ X) {f : Nat → Int32} (u : zUp H H1 (ad 2)) (n : zAt Z H1 (ad 2) (.inl (Z.2.1 0, (16000, .inl f)))) : isC Z H1 ad (sf τ 2 f) X := by
  have B : ∀ m, bF (sf τ 2 f) m = bF τ m := fun m => by
    have E : ∀ j, 20 ≤ j → (sf τ 2 f).2.1 j = τ.2.1 j := fun j hj => va_up_ne _ _ (by omega)
    unfold bF
    rw [E 20 (by omega), E 21 (by omega), E 22 (by omega), E 23 (by omega), E 24 (by omega), E 25 (by omega), E 26 (by omega), E 27 (by omega), E 28 (by omega), E 29 (by omega)]
  refine h.put 2 (by omega) u (fun _ => rfl) (fun _ => rfl) (fun z => absurd rfl z) (fun _ => rfl) (fun j hj e => va_up_ne _ _ e) (by omega) (fun _ => rfl) (fun m _ => B m) (fun z => absurd z (by omega)) (fun z => absurd z (by omega)) (fun _ => ?_) (fun z => absurd z (by omega)) (fun z => absurd z (by decide)) (fun z => absurd z (by omega)) (fun m _ z => absurd z (by omega))
  show zAt Z H1 (ad 2) (.inl (Z.2.1 0, (16000, .inl (va_up τ.2.1 2 f 2))))
  rw [va_up_self]
  exact n
/-- field k of body m -/
abbrev sb9 (τ : mS) (k m : Nat) (v : Int32) : mS := sf τ (20 + k) (upd (τ.2.1 (20 + k)) m v)
theorem bF_set {τ : mS} {m : Nat} {v : Int32} (k : Nat) (hk : k < 10) : (bF τ m).set k (.int v) = bF (sb9 τ k m v) m := by
  have G : ∀ j, j < 10 → (sb9 τ k m v).2.1 (20 + j) m = if j = k then v else τ.2.1 (20 + j) m := by
    intro j hj
    by_cases e : j = k
    · subst e; rw [if_pos rfl]; show va_up τ.2.1 (20 + j) _ (20 + j) m = v; rw [va_up_self]; exact upd_2
    · rw [if_neg e]; show va_up τ.2.1 (20 + k) _ (20 + j) m = _; rw [va_up_ne _ _ (by omega)]
  have g0 := G 0 (by omega); have g1 := G 1 (by omega); have g2 := G 2 (by omega); have g3 := G 3 (by omega); have g4 := G 4 (by omega); have g5 := G 5 (by omega); have g6 := G 6 (by omega); have g7 := G 7 (by omega); have g8 := G 8 (by omega); have g9 := G 9 (by omega)
  unfold bF
  rw [g0, g1, g2, g3, g4, g5, g6, g7, g8, g9]
  match k, hk with
  | 0, _ => rfl
  | 1, _ => rfl
  | 2, _ => rfl
  | 3, _ => rfl
  | 4, _ => rfl
  | 5, _ => rfl
  | 6, _ => rfl
  | 7, _ => rfl
  | 8, _ => rfl
  | 9, _ => rfl
theorem bF_ne {τ : mS} {m m' : Nat} {v : Int32} (k : Nat) (e : m' ≠ m) : bF (sb9 τ k m v) m' = bF τ m' := by
  have G : ∀ j, (sb9 τ k m v).2.1 j m' = τ.2.1 j m' := by
    intro j
    show va_up τ.2.1 (20 + k) _ j m' = _
    by_cases e2 : j = 20 + k
    · subst e2; rw [va_up_self]; exact upd_ne e
    · rw [va_up_ne _ _ e2]
  unfold bF
  rw [G, G, G, G, G, G, G, G, G, G]
theorem isC.sb (h : isC Z H ad τ X) {m : Nat} (hm : m < 24) (k : Nat) (hk : k < 10) {v : Int32} (u : zUp H H1 (ad (16 + m))) (n : zAt Z H1 (ad (16 + m)) (.inr (1, (bF τ m).set k (.int v)))) : isC Z H1 ad (sb9 τ k m v) X := by
  have E : ∀ j, j < 20 → (sb9 τ k m v).2.1 j = τ.2.1 j := fun j hj => va_up_ne _ _ (by omega)
  refine h.put (16 + m) (by omega) u (fun _ => rfl) (fun _ => rfl) (fun _ => E 2 (by omega)) (fun _ => rfl) (fun j hj _ => E j (by have := cIdx_lt hj; omega)) (by omega) (fun _ => rfl) (fun m' e => bF_ne k (by omega)) (fun z => absurd z (by omega)) (fun z => absurd z (by omega)) (fun z => absurd z (by omega)) (fun z => absurd z (by omega)) (fun z => absurd (cIdx_lt z) (by omega)) (fun z => absurd z (by omega)) (fun m' _ z => ?_)
  have : m' = m := by omega
  subst this
  rw [← bF_set k hk]
  exact n
theorem isC.keep (h : isC Z H ad τ X) (hq : ∀ i, i < 40 → H1[ad i]? = H[ad i]?) (hX : ∀ q ∈ X, zAt Z H1 q.1 q.2) : isC Z H1 ad τ X :=
  ⟨h.img.kept (hq 0 (by omega)), h.byt.kept (hq 1 (by omega)), h.row0.kept (hq 2 (by omega)), h.pol.kept (hq 3 (by omega)), fun k hk => (h.row k hk).kept (hq k (by have := cIdx_lt hk; omega)), h.bds.kept (hq 13 (by omega)), h.ver.kept (hq 15 (by omega)), fun m hm => (h.bod m hm).kept (hq _ (by omega)), h.2.2.2.2.2.2.2.2.1, fun q hq' => ⟨hX q hq', (h.2.2.2.2.2.2.2.2.2 q hq').2⟩⟩
end CG
section CR
variable {p : Program} {l : Launch} {e : Env} {R : Room} {s : State} {m : MethodId} {args : Array Value} {below : List Frame} {meth : Method} {c : Code} {H : Heap} {locs : List Loc} {cells slots : Nat} {Q : State → Prop}
variable {Z : zT} {cc : ByteArray} {nL : Nat} {own : String} {ret : Option FieldType} {A : Nat → Prop} {a : Nat} {pc : Nat} {ls : Array Slot} {rest st0 : List Value}
theorem z_aaldq (C : zC Z A p s m args meth c cc nL own ret) {n : Nat} {f : Nat → Option Nat} (hP : zAt Z H a (.inl (Z.2.1 3, (n, .inr (.inr (.inr (.inr f))))))) (j : Nat) {i : Int32} (hi : i = nI j) (hj : j < n) (hn : n < 2 ^ 31) (hdg : decode cc pc = .ok (.aaload, 1))
    (kk : W p l e R s m args below meth c H locs cells slots Q (F0 m (pc + 1) ls (va_rf (f j) :: rest))) : W p l e R s m args below meth c H locs cells slots Q (F0 m pc ls (.int i :: .ref a :: rest)) := by
  subst hi
  refine va_aldq (D := Z.1) (cl := vwCl) (tys := zTy Z) (ws := [(a, .inl (Z.2.1 3, (n, .inr (.inr (.inr (.inr f))))))]) (f := f) (C := "FileRules$Body") C.1 C.2.1 C.2.2.2.2.2.1 hP.sing 0 3 rfl rfl (vp_in_nI hj hn) hdg ?_
  rw [nI_clamp (by omega)]
  exact kk
/-- a call of a nest mate's private static method -/
abbrev zWN (y : MethodName) (bytes : ByteArray) (maxL : Nat) (rt : Option FieldType) (n : Nat) : Prop :=
  (Cond.code y bytes maxL rt ∈ BIG ∧ Cond.initialized y.cls ∈ BIG) ∧ (y.cls ≠ "java/lang/invoke/MethodHandle" ∧ y.cls ≠ "java/lang/invoke/VarHandle" ∧ (parseMethodDescriptor y.desc).map (fun d => d.parameters.length) = some n)
theorem z_cn (C : zC Z A p s m args meth c cc nL own ret) {y : MethodName} {bytes : ByteArray} {maxL idx n : Nat} {rt : Option FieldType} {rm : Room} (hw : zWN y bytes maxL rt n) (hl : (own, idx, y) ∈ zNest) (hR : zR R rm maxL) : va_CN R s args own idx y "FileRules" bytes maxL rt (Cond.code y bytes maxL rt :: BIG) rm rm.cells rm.slots n :=
  va_cnB n C.2.2.2.2.1 (big_goodIn y bytes maxL rt hw.1.1) rfl rfl rfl (C.2.2.2.2.2.2.2.2.2.1.2.2.2.2.2.2.2.2.2.2.1 _ hl) (C.2.2.2.2.1 _ hw.1.2) hw.2 hR
theorem z_callSN (C : zC Z A p s m args meth c cc nL own ret) {y : MethodName} {bytes : ByteArray} {maxL idx mc ms n : Nat} {rt : Option FieldType} {rm : Room} {As : List Value} {A1 : Nat → Prop} {post : Option Value → Heap → Prop} (hM : zM l Z y bytes maxL rt rm As H A1 mc ms post) (hw : zWN y bytes maxL rt n) (hl : (own, idx, y) ∈ zNest) (hs : Cond.static y ∈ BIG) (hR : zR R rm maxL) (hm : rm.cells = mc ∧ rm.slots = ms) (hn : As.length = n) (hsz : ls.size = nL) (hst : st0 = As.reverse ++ rest) (hW : (rest.map fun v => v.category).sum ≤ 8) (hdg : decode cc pc = .ok (.invokestatic idx, 3)) (hf : cells + mc ≤ R.cells ∧ slots + ms ≤ R.slots) (hS : va_S A s.heap H locs) (hA : ∀ q, A1 q → A q)
    (kk : ∀ (v : Option Value) (H' : Heap) (locs' : List Loc), post v H' → va_S A s.heap H' locs' → H.size ≤ H'.size → (∀ q : Nat, q < H.size → ¬ A1 q → H'[q]? = H[q]?) → W p l e R s m args below meth c H' locs' (cells + mc) (slots + ms) Q (F0 m (pc + 3) ls (v.toList ++ rest))) : W p l e R s m args below meth c H locs cells slots Q (F0 m pc ls st0) := by
  obtain ⟨rfl, rfl⟩ := hm
  exact z_fin (va_runSN (As := As) (rest := rest) (host := "FileRules") ⟨C.1, C.2.1, C.2.2.1, C.2.2.2.1, C.2.2.2.2.1⟩ hM ⟨z_cn C hw hl hR, C.2.2.2.2.1 _ hs, trivial⟩ (z_pre C hS hA) rfl hn hsz hst (lv_room hW) hdg hf) hS hA kk
theorem z_readSN (C : zC Z A p s m args meth c cc nL own ret) {y : MethodName} {bytes : ByteArray} {maxL idx n : Nat} {rt : Option FieldType} {rm : Room} {As : List Value} {v : Value} (hM : zP l Z y bytes maxL rt rm As H v) (hw : zWN y bytes maxL rt n) (hl : (own, idx, y) ∈ zNest) (hs : Cond.static y ∈ BIG) (hR : zR R rm maxL) (hm : rm.cells = 0 ∧ rm.slots = 0) (hn : As.length = n) (hsz : ls.size = nL) (hst : st0 = As.reverse ++ rest) (hW : (rest.map fun v => v.category).sum ≤ 8) (hdg : decode cc pc = .ok (.invokestatic idx, 3)) (hf : cells ≤ R.cells ∧ slots ≤ R.slots) (hS : va_S A s.heap H locs)
    (kk : ∀ locs' : List Loc, va_S A s.heap H locs' → W p l e R s m args below meth c H locs' cells slots Q (F0 m (pc + 3) ls (v :: rest))) : W p l e R s m args below meth c H locs cells slots Q (F0 m pc ls st0) :=
  z_callSN C hM hw hl hs hR hm hn hsz hst hW hdg hf hS (fun _ h => h.elim) (fun v' H' locs' hp hS' _ _ => by obtain ⟨rfl, rfl⟩ := hp; exact kk locs' hS')
end CR
/-! what the component reads: bytes with 0 outside, rows with -1 outside -/
def B1 (F : Nat → Nat) (n : Nat) (t : Int) : Nat := if 0 ≤ t ∧ t < (n : Int) then F t.toNat else 0
def B2 (F : Nat → Nat) (n : Nat) (t : Int) : Nat := if 0 ≤ t ∧ t + 2 ≤ (n : Int) then U2 F t.toNat else 0
def B4 (F : Nat → Nat) (n : Nat) (t : Int) : Int := if 0 ≤ t ∧ t + 4 ≤ (n : Int) then S4 F t.toNat else 0
theorem B1_in {F : Nat → Nat} {n k : Nat} (h : k < n) : B1 F n (k : Int) = F k := by unfold B1; rw [if_pos (by omega), Int.toNat_natCast]
theorem B2_in {F : Nat → Nat} {n k : Nat} (h : k + 2 ≤ n) : B2 F n (k : Int) = U2 F k := by unfold B2; rw [if_pos (by omega), Int.toNat_natCast]
theorem B4_in {F : Nat → Nat} {n k : Nat} (h : k + 4 ≤ n) : B4 F n (k : Int) = S4 F k := by unfold B4; rw [if_pos (by omega), Int.toNat_natCast]
theorem B1_lt {F : Nat → Nat} (hF : isF F) (n : Nat) (t : Int) : B1 F n t < 256 := by unfold B1; split; exact hF _; omega
theorem B2_lt {F : Nat → Nat} (hF : isF F) (n : Nat) (t : Int) : B2 F n t < 65536 := by unfold B2; split; exact U2_lt hF _; omega
theorem B4_rg {F : Nat → Nat} (hF : isF F) (n : Nat) (t : Int) : -2147483648 ≤ B4 F n t ∧ B4 F n t < 2147483648 := by unfold B4; split; exact S4_rg hF _; omega
def rAt (f : Nat → Int32) (L : Nat) (t : Int) : Int32 := if 0 ≤ t ∧ t < (L : Int) then f t.toNat else zI (-1)
theorem rAt_in {f : Nat → Int32} {L k : Nat} (h : k < L) : rAt f L (k : Int) = f k := by unfold rAt; rw [if_pos (by omega), Int.toNat_natCast]
/-- the file in the component's bytes -/
def cSrc (τ : mS) (F : Nat → Nat) (n : Nat) : Prop := isF F ∧ (∀ j, j < n → τ.2.1 2 j = zI (sb (F j))) ∧ τ.1 0 = zI (n : Int) ∧ n ≤ 16000
theorem cSrc.chg {τ τ' : mS} {F : Nat → Nat} {n : Nat} {xs fs : List Nat} (h : cSrc τ F n) (hc : chg xs fs τ τ') (h0 : 0 ∉ xs) (h2 : 2 ∉ fs) : cSrc τ' F n :=
  ⟨h.1, fun j hj => by rw [hc.2.1 2 h2]; exact h.2.1 j hj, by rw [hc.1 0 h0]; exact h.2.2.1, h.2.2.2⟩
/-- a stretch -/
abbrev stE (ad : Nat → Nat) (en ru : Nat) : va_E := .inr (5, [.ref (ad 1), .ref (ad 15), zN en, zN ru])
