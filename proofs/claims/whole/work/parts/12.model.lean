/-! the model: its object, its arrays -/
abbrev mS : Type := (Nat → Int32) × (Nat → Nat → Int32) × (Nat → Int64)
def mfs (ad : Nat → Nat) (σ : mS) : List Value := [.ref (ad 0), .int (σ.1 1), .int (σ.1 2), .ref (ad 3), .int (σ.1 4), .int (σ.1 5), .int (σ.1 6), (if σ.1 7 = 0 then .null else .ref (ad 0)), .int (σ.1 8), .int (σ.1 9), .int (σ.1 10), .ref (ad 11), .ref (ad 12), .ref (ad 13), .ref (ad 14), .ref (ad 15), .int (σ.1 16), .int (σ.1 17), .int (σ.1 18), .int (σ.1 19), .ref (ad 20), .int (σ.1 21), .ref (ad 22), .ref (ad 23), .int (σ.1 24), .ref (ad 25), .ref (ad 26), .ref (ad 27), .ref (ad 28), .ref (ad 29), .ref (ad 30), .int (σ.1 31), .int (σ.1 32), .int (σ.1 33), .ref (ad 34), .int (σ.1 35), .ref (ad 36), .int (σ.1 37), .ref (ad 38), .int (σ.1 39), .ref (ad 40), .ref (ad 41), .int (σ.1 42), .int (σ.1 43), .int (σ.1 44), .int (σ.1 45), .int (σ.1 46), .ref (ad 47), .ref (ad 48), .ref (ad 49), .ref (ad 50), .ref (ad 51)]
def mIdx : List Nat := [11, 12, 13, 14, 20, 22, 23, 25, 26, 27, 28, 29, 30, 34, 36, 38, 40, 41, 47, 48, 49, 50, 51]
def mAll : List Nat := 0 :: 3 :: 15 :: mIdx
def mLen : Nat → Nat := fun k => match k with
  | 11 => 502
  | 12 => 502
  | 13 => 502
  | 14 => 502
  | 20 => 48
  | 22 => 3000
  | 23 => 3000
  | 25 => 24
  | 26 => 24
  | 27 => 24
  | 28 => 24
  | 29 => 24
  | 30 => 24
  | 34 => 1201
  | 36 => 86400
  | 38 => 40000
  | 40 => 24
  | 41 => 24
  | 47 => 24
  | 48 => 144
  | 49 => 24
  | 50 => 86400
  | 51 => 40000
  | _ => 0
def sx (σ : mS) (k : Nat) (v : Int32) : mS := (upd σ.1 k v, σ.2.1, σ.2.2)
def sf (σ : mS) (k : Nat) (f : Nat → Int32) : mS := (σ.1, va_up σ.2.1 k f, σ.2.2)
def sg (σ : mS) (g : Nat → Int64) : mS := (σ.1, σ.2.1, g)
def mNe (o : Nat) (ad : Nat → Nat) : Prop := (∀ i ∈ mAll, ad i ≠ o) ∧ ∀ i ∈ mAll, ∀ j ∈ mAll, ad i = ad j → i = j
def isM (Z : zT) (H : Heap) (o : Nat) (ad : Nat → Nat) (σ : mS) : Prop :=
  zAt Z H o (.inr (8, mfs ad σ)) ∧ (∀ k ∈ mIdx, zAt Z H (ad k) (.inl (Z.2.1 1, (mLen k, .inl (σ.2.1 k))))) ∧ zAt Z H (ad 0) (.inl (Z.2.1 0, (16000, .inl (σ.2.1 0)))) ∧ zAt Z H (ad 15) (.inl (Z.2.1 2, (502, .inr (.inl σ.2.2)))) ∧ zAt Z H (ad 3) (.inr (0, [])) ∧ mNe o ad
def mA (o : Nat) (ad : Nat → Nat) : Nat → Prop := fun q => q = o ∨ ∃ k, k ∈ mAll ∧ q = ad k
theorem mA.o {o : Nat} {ad : Nat → Nat} : mA o ad o := Or.inl rfl
theorem mA.k {o : Nat} {ad : Nat → Nat} {k : Nat} (h : k ∈ mAll) : mA o ad (ad k) := Or.inr ⟨k, h, rfl⟩
theorem mIdx_all {k : Nat} (h : k ∈ mIdx) : k ∈ mAll := List.mem_cons_of_mem _ (List.mem_cons_of_mem _ (List.mem_cons_of_mem _ h))
theorem mIdx_ne {k : Nat} (h : k ∈ mIdx) : k ≠ 0 ∧ k ≠ 3 ∧ k ≠ 15 := by
  refine ⟨?_, ?_, ?_⟩ <;> (rintro rfl; revert h; decide)
theorem m0 : 0 ∈ mAll := by decide
theorem m3 : 3 ∈ mAll := by decide
theorem m15 : 15 ∈ mAll := by decide
theorem isM.kept {Z : zT} {H H1 : Heap} {o : Nat} {ad : Nat → Nat} {σ : mS} (h : isM Z H o ad σ) (hq : ∀ q, mA o ad q → H1[q]? = H[q]?) : isM Z H1 o ad σ :=
  ⟨h.1.kept (hq _ mA.o), fun k hk => (h.2.1 k hk).kept (hq _ (mA.k (mIdx_all hk))), h.2.2.1.kept (hq _ (mA.k m0)), h.2.2.2.1.kept (hq _ (mA.k m15)), h.2.2.2.2.1.kept (hq _ (mA.k m3)), h.2.2.2.2.2⟩
theorem isM.putx {Z : zT} {H H1 : Heap} {o : Nat} {ad : Nat → Nat} {σ σ' : mS} (h : isM Z H o ad σ) (u : zUp H H1 o) (h1 : zAt Z H1 o (.inr (8, mfs ad σ'))) (e : σ'.2 = σ.2) : isM Z H1 o ad σ' := by
  obtain ⟨-, h2, h3, h4, h5, h6⟩ := h
  refine ⟨h1, fun k hk => ?_, ?_, ?_, ?_, h6⟩
  · rw [e]; exact u.at (h2 k hk) (h6.1 k (mIdx_all hk))
  · rw [e]; exact u.at h3 (h6.1 0 m0)
  · rw [e]; exact u.at h4 (h6.1 15 m15)
  · exact u.at h5 (h6.1 3 m3)
theorem isM.putf {Z : zT} {H H1 : Heap} {o : Nat} {ad : Nat → Nat} {σ : mS} (h : isM Z H o ad σ) {k : Nat} (hk : k ∈ mIdx) (u : zUp H H1 (ad k)) {f : Nat → Int32} (h1 : zAt Z H1 (ad k) (.inl (Z.2.1 1, (mLen k, .inl f)))) : isM Z H1 o ad (sf σ k f) := by
  obtain ⟨h0, h2, h3, h4, h5, h6⟩ := h
  have ne : ∀ i ∈ mAll, i ≠ k → ad i ≠ ad k := fun i hi h z => h (h6.2 i hi k (mIdx_all hk) z)
  obtain ⟨n0, n3, n15⟩ := mIdx_ne hk
  refine ⟨u.at h0 (Ne.symm (h6.1 k (mIdx_all hk))), fun i hi => ?_, ?_, u.at h4 (ne 15 m15 (Ne.symm n15)), u.at h5 (ne 3 m3 (Ne.symm n3)), h6⟩
  · by_cases e : i = k
    · subst e
      show zAt Z H1 (ad i) (.inl (Z.2.1 1, (mLen i, .inl (va_up σ.2.1 i f i))))
      rw [va_up_self]
      exact h1
    · show zAt Z H1 (ad i) (.inl (Z.2.1 1, (mLen i, .inl (va_up σ.2.1 k f i))))
      rw [va_up_ne _ _ e]
      exact u.at (h2 i hi) (ne i (mIdx_all hi) e)
  · show zAt Z H1 (ad 0) (.inl (Z.2.1 0, (16000, .inl (va_up σ.2.1 k f 0))))
    rw [va_up_ne _ _ (Ne.symm n0)]
    exact u.at h3 (ne 0 m0 (Ne.symm n0))
theorem isM.put0 {Z : zT} {H H1 : Heap} {o : Nat} {ad : Nat → Nat} {σ : mS} (h : isM Z H o ad σ) (u : zUp H H1 (ad 0)) {f : Nat → Int32} (h1 : zAt Z H1 (ad 0) (.inl (Z.2.1 0, (16000, .inl f)))) : isM Z H1 o ad (sf σ 0 f) := by
  obtain ⟨h0, h2, h3, h4, h5, h6⟩ := h
  have ne : ∀ i ∈ mAll, i ≠ 0 → ad i ≠ ad 0 := fun i hi h z => h (h6.2 i hi 0 m0 z)
  refine ⟨u.at h0 (Ne.symm (h6.1 0 m0)), fun i hi => ?_, ?_, u.at h4 (ne 15 m15 (by decide)), u.at h5 (ne 3 m3 (by decide)), h6⟩
  · show zAt Z H1 (ad i) (.inl (Z.2.1 1, (mLen i, .inl (va_up σ.2.1 0 f i))))
    rw [va_up_ne _ _ (mIdx_ne hi).1]
    exact u.at (h2 i hi) (ne i (mIdx_all hi) (mIdx_ne hi).1)
  · show zAt Z H1 (ad 0) (.inl (Z.2.1 0, (16000, .inl (va_up σ.2.1 0 f 0))))
    rw [va_up_self]
    exact h1
theorem isM.putg {Z : zT} {H H1 : Heap} {o : Nat} {ad : Nat → Nat} {σ : mS} (h : isM Z H o ad σ) (u : zUp H H1 (ad 15)) {g : Nat → Int64} (h1 : zAt Z H1 (ad 15) (.inl (Z.2.1 2, (502, .inr (.inl g))))) : isM Z H1 o ad (sg σ g) := by
  obtain ⟨h0, h2, h3, h4, h5, h6⟩ := h
  have ne : ∀ i ∈ mAll, i ≠ 15 → ad i ≠ ad 15 := fun i hi h z => h (h6.2 i hi 15 m15 z)
  exact ⟨u.at h0 (Ne.symm (h6.1 15 m15)), fun i hi => u.at (h2 i hi) (ne i (mIdx_all hi) (mIdx_ne hi).2.2), u.at h3 (ne 0 m0 (by decide)), h1, u.at h5 (ne 3 m3 (by decide)), h6⟩
section ZM
variable {p : Program} {l : Launch} {e : Env} {R : Room} {s : State} {m : MethodId} {args : Array Value} {below : List Frame} {meth : Method} {c : Code} {H : Heap} {locs : List Loc} {cells slots : Nat} {Q : State → Prop}
variable {Z : zT} {A : Nat → Prop} {cc : ByteArray} {nL : Nat} {ret : Option FieldType} {pc : Nat} {ls : Array Slot} {rest : List Value} {o : Nat} {ad : Nat → Nat} {σ : mS}
theorem m_get (C : zC Z A p s m args meth c cc nL RX12 ret) (hM : isM Z H o ad σ) (k : Nat) {idx : Nat} {v : Value} (hk : k < 52) (hlink : Cond.fieldLink RX12 idx "FileRulesModel" (TX12 k).2.1 (TX12 k).2.2.1 ∈ BIG) (href : (TX12 k).1 = "FileRulesModel") (hv : (mfs ad σ)[k]? = some v) (hdg : decode cc pc = .ok (.getfield idx, 3))
    (kk : W p l e R s m args below meth c H locs cells slots Q (F0 m (pc + 3) ls (v :: rest))) : W p l e R s m args below meth c H locs cells slots Q (F0 m pc ls (.ref o :: rest)) :=
  z_get C hM.1 rfl bi_wsX120 k hk hlink href hv hdg kk
theorem m_put (C : zC Z (mA o ad) p s m args meth c cc nL RX12 ret) (hM : isM Z H o ad σ) (k : Nat) {idx : Nat} {v : Value} (σ' : mS) (hσ : (mfs ad σ).set k v = mfs ad σ') (he : σ'.2 = σ.2) (hk : k < 52) (hlink : Cond.fieldLink RX12 idx "FileRulesModel" (TX12 k).2.1 (TX12 k).2.2.1 ∈ BIG) (href : (TX12 k).1 = "FileRulesModel")
    (hfin : (TX12 k).2.2.2 = false) (hn : narrow (tyX12 k) v = v) (hfit : fits (tyX12 k) v = true) (hS : va_S (mA o ad) s.heap H locs) (hdg : decode cc pc = .ok (.putfield idx, 3))
    (kk : ∀ (H : Heap) (locs : List Loc), isM Z H o ad σ' → va_S (mA o ad) s.heap H locs → W p l e R s m args below meth c H locs cells slots Q (F0 m (pc + 3) ls rest)) : W p l e R s m args below meth c H locs cells slots Q (F0 m pc ls (v :: .ref o :: rest)) :=
  z_put C tyX12 hM.1 rfl bi_wsX120 tyX12_ok nmX12 k hk hlink href hfin hn hfit hk hS mA.o hdg (fun H' locs' u h1 hS' => kk H' locs' (hM.putx u (by rw [← hσ]; exact h1) he) hS')
theorem m_ald (C : zC Z A p s m args meth c cc nL RX12 ret) (hM : isM Z H o ad σ) (k : Nat) (hk : k ∈ mIdx) (j : Nat) {t : Int} (hi : t = (j : Int)) (hj : j < mLen k) (hdg : decode cc pc = .ok (.iaload, 1))
    (kk : W p l e R s m args below meth c H locs cells slots Q (F0 m (pc + 1) ls (.int (σ.2.1 k j) :: rest))) : W p l e R s m args below meth c H locs cells slots Q (F0 m pc ls (zV t :: .ref (ad k) :: rest)) :=
  z_iald C (hM.2.1 k hk) j (by rw [hi, zI_nat]) hj (by
    have : ∀ k ∈ mIdx, mLen k < 2 ^ 31 := by decide
    exact this k hk) hdg kk
theorem m_ast (C : zC Z (mA o ad) p s m args meth c cc nL RX12 ret) (hM : isM Z H o ad σ) (k : Nat) (hk : k ∈ mIdx) (j : Nat) {t : Int} {x : Int32} (hi : t = (j : Int)) (hj : j < mLen k) (hS : va_S (mA o ad) s.heap H locs) (hdg : decode cc pc = .ok (.iastore, 1))
    (kk : ∀ (H : Heap) (locs : List Loc), isM Z H o ad (sf σ k (upd (σ.2.1 k) j x)) → va_S (mA o ad) s.heap H locs → W p l e R s m args below meth c H locs cells slots Q (F0 m (pc + 1) ls rest)) : W p l e R s m args below meth c H locs cells slots Q (F0 m pc ls (.int x :: zV t :: .ref (ad k) :: rest)) :=
  z_iast C (hM.2.1 k hk) j (by rw [hi, zI_nat]) hj (by
    have : ∀ k ∈ mIdx, mLen k < 2 ^ 31 := by decide
    exact this k hk) hS (mA.k (mIdx_all hk)) hdg (fun H' locs' u h1 hS' => kk H' locs' (hM.putf hk u h1) hS')
theorem m_bld (C : zC Z A p s m args meth c cc nL RX12 ret) (hM : isM Z H o ad σ) (j : Nat) {t : Int} (hi : t = (j : Int)) (hj : j < 16000) (hdg : decode cc pc = .ok (.baload, 1))
    (kk : W p l e R s m args below meth c H locs cells slots Q (F0 m (pc + 1) ls (.int (σ.2.1 0 j) :: rest))) : W p l e R s m args below meth c H locs cells slots Q (F0 m pc ls (zV t :: .ref (ad 0) :: rest)) :=
  z_bald C hM.2.2.1 j (by rw [hi, zI_nat]) hj (by decide) hdg kk
theorem m_bst (C : zC Z (mA o ad) p s m args meth c cc nL RX12 ret) (hM : isM Z H o ad σ) (j : Nat) {t : Int} {x : Int32} (hi : t = (j : Int)) (hj : j < 16000) (hS : va_S (mA o ad) s.heap H locs) (hdg : decode cc pc = .ok (.bastore, 1))
    (kk : ∀ (H : Heap) (locs : List Loc), isM Z H o ad (sf σ 0 (upd (σ.2.1 0) j x.toInt8.toInt32)) → va_S (mA o ad) s.heap H locs → W p l e R s m args below meth c H locs cells slots Q (F0 m (pc + 1) ls rest)) : W p l e R s m args below meth c H locs cells slots Q (F0 m pc ls (.int x :: zV t :: .ref (ad 0) :: rest)) :=
  z_bast C hM.2.2.1 j (by rw [hi, zI_nat]) hj (by decide) hS (mA.k m0) hdg (fun H' locs' u h1 hS' => kk H' locs' (hM.put0 u h1) hS')
theorem m_lld (C : zC Z A p s m args meth c cc nL RX12 ret) (hM : isM Z H o ad σ) (j : Nat) {t : Int} (hi : t = (j : Int)) (hj : j < 502) (hdg : decode cc pc = .ok (.laload, 1))
    (kk : W p l e R s m args below meth c H locs cells slots Q (F0 m (pc + 1) ls (.long (σ.2.2 j) :: rest))) : W p l e R s m args below meth c H locs cells slots Q (F0 m pc ls (zV t :: .ref (ad 15) :: rest)) :=
  z_lald C hM.2.2.2.1 j (by rw [hi, zI_nat]) hj (by decide) hdg kk
theorem m_lst (C : zC Z (mA o ad) p s m args meth c cc nL RX12 ret) (hM : isM Z H o ad σ) (j : Nat) {t : Int} {x : Int64} (hi : t = (j : Int)) (hj : j < 502) (hS : va_S (mA o ad) s.heap H locs) (hdg : decode cc pc = .ok (.lastore, 1))
    (kk : ∀ (H : Heap) (locs : List Loc), isM Z H o ad (sg σ (vp_updL σ.2.2 j x)) → va_S (mA o ad) s.heap H locs → W p l e R s m args below meth c H locs cells slots Q (F0 m (pc + 1) ls rest)) : W p l e R s m args below meth c H locs cells slots Q (F0 m pc ls (.long x :: zV t :: .ref (ad 15) :: rest)) :=
  z_last C hM.2.2.2.1 j (by rw [hi, zI_nat]) hj (by decide) hS (mA.k m15) hdg (fun H' locs' u h1 hS' => kk H' locs' (hM.putg u h1) hS')
end ZM
