/-! what a file's layout gives, told purely -/
theorem xLet_p {F : Nat → Nat} {n t : Nat} : ∀ c q q', xLet F n t c q = .ok q' → q' = q + c ∧ (1 ≤ c → q + c ≤ n) ∧ ∀ i, i < c → 33 ≤ F (q + i) ∧ F (q + i) ≤ 126 := by
  intro c
  induction c with
  | zero =>
    intro q q' h
    cases h
    exact ⟨rfl, fun z => by omega, fun i hi => by omega⟩
  | succ c ih =>
    intro q q' h
    unfold xLet at h
    by_cases a : q + 1 ≤ n
    · rw [if_pos a] at h
      by_cases b : 33 ≤ F q ∧ F q ≤ 126
      · rw [if_pos b] at h
        obtain ⟨h1, h2, h3⟩ := ih _ _ h
        refine ⟨by omega, fun _ => ?_, fun i hi => ?_⟩
        · rcases Nat.eq_zero_or_pos c with z | z
          · omega
          · have := h2 z; omega
        · rcases Nat.eq_zero_or_pos i with z | z
          · subst z; exact b
          · have := h3 (i - 1) (by omega)
            rw [show q + 1 + (i - 1) = q + i by omega] at this
            exact this
      · rw [if_neg b] at h; exact absurd h (by simp)
    · rw [if_neg a] at h; exact absurd h (by simp)
/-- entry at q is whole and ends at q' -/
def pEn (F : Nat → Nat) (n q q' : Nat) : Prop := q + 1 ≤ n ∧ q < q' ∧ q' ≤ n ∧ (F q = 1 → 1 ≤ U2 F (q + 1) ∧ U2 F (q + 1) ≤ 100 ∧ q + 3 + U2 F (q + 1) ≤ n ∧ ∀ i, i < U2 F (q + 1) → 33 ≤ F (q + 3 + i) ∧ F (q + 3 + i) ≤ 126) ∧ (F q ≠ 1 → entLen (F q) ≠ 0 ∧ q + entLen (F q) ≤ n)
theorem xEnt_p {F : Nat → Nat} {n q q' : Nat} (h : xEnt F n q = .ok q') : pEn F n q q' := by
  unfold xEnt at h
  by_cases a : q + 1 ≤ n
  · rw [if_pos a] at h
    by_cases b : F q = 1
    · rw [if_pos b] at h
      unfold xName at h
      by_cases c : q + 3 ≤ n
      · rw [if_pos c] at h
        by_cases d : 1 ≤ U2 F (q + 1) ∧ U2 F (q + 1) ≤ 100
        · rw [if_pos d] at h
          obtain ⟨h1, h2, h3⟩ := xLet_p _ _ _ h
          have := h2 d.1
          exact ⟨a, by omega, by omega, fun _ => ⟨d.1, d.2, this, h3⟩, fun z => absurd b z⟩
        · rw [if_neg d] at h; exact absurd h (by simp)
      · rw [if_neg c] at h; exact absurd h (by simp)
    · rw [if_neg b] at h
      by_cases c : entLen (F q) = 0
      · rw [if_pos c] at h; exact absurd h (by simp)
      · rw [if_neg c] at h
        by_cases d : q + entLen (F q) ≤ n
        · rw [if_pos d] at h
          cases h
          exact ⟨a, by omega, d, fun z => absurd z b, fun _ => ⟨c, d⟩⟩
        · rw [if_neg d] at h; exact absurd h (by simp)
  · rw [if_neg a] at h; exact absurd h (by simp)
/-- the pool's places -/
def pPl (F : Nat → Nat) (n : Nat) (tb : Nat → Nat) (pc : Nat) : Prop := ∀ k, tb k ≠ 0 → 1 ≤ k ∧ k < pc ∧ 10 ≤ tb k ∧ ∃ q', pEn F n (tb k) q'
theorem xPool_p {F : Nat → Nat} {n pc : Nat} : ∀ fu k q tb q' tb', xPool F n pc fu k q tb = .ok (q', tb') → 1 ≤ k → 10 ≤ q → pPl F n tb pc → pPl F n tb' pc ∧ q ≤ q' := by
  intro fu
  induction fu with
  | zero =>
    intro k q tb q' tb' h hk hq hp
    cases h
    exact ⟨hp, Nat.le_refl _⟩
  | succ fu ih =>
    intro k q tb q' tb' h hk hq hp
    unfold xPool at h
    by_cases a : k < pc
    · rw [if_pos a] at h
      cases e : xEnt F n q with
      | error z => rw [e] at h; exact absurd h (by simp)
      | ok q1 =>
        rw [e] at h
        have p1 := xEnt_p e
        obtain ⟨r1, r2⟩ := ih _ _ _ _ _ h (by split <;> omega) (by have := p1.2.1; omega) (fun j hj => by
          by_cases z : j = k
          · subst z
            rw [va_up_self] at hj ⊢
            exact ⟨hk, a, hq, _, p1⟩
          · rw [va_up_ne _ _ z] at hj ⊢
            exact hp j hj)
        exact ⟨r1, by have := p1.2.1; omega⟩
    · rw [if_neg a] at h
      cases h
      exact ⟨hp, Nat.le_refl _⟩
theorem pPl.nm {F : Nat → Nat} {n : Nat} {tb : Nat → Nat} {pc k : Nat} (h : pPl F n tb pc) (ht : tg F tb k = 1) : pNm F n tb k ∧ tb k ≠ 0 ∧ 1 ≤ k ∧ k < pc := by
  have h0 : tb k ≠ 0 := fun z => by unfold tg at ht; rw [if_pos z] at ht; omega
  have ht' : F (tb k) = 1 := by unfold tg at ht; rw [if_neg h0] at ht; exact ht
  obtain ⟨a1, a2, a3, q', a4⟩ := h k h0
  obtain ⟨b1, b2, b3, b4⟩ := a4.2.2.2.1 ht'
  exact ⟨⟨ht, b1, b2, b3, fun i hi => by have := (b4 i hi).2; omega⟩, h0, a1, a2⟩
theorem pPl.tgs {F : Nat → Nat} {n : Nat} {tb : Nat → Nat} {pc k t : Nat} (h : pPl F n tb pc) (ht : tg F tb k = t) (h1 : t ≠ 1) (h2 : t ≠ 0) : 1 ≤ k ∧ k < pc ∧ entLen t ≠ 0 ∧ tb k + entLen t ≤ n ∧ 10 ≤ tb k := by
  have h0 : tb k ≠ 0 := fun z => by unfold tg at ht; rw [if_pos z] at ht; omega
  have ht' : F (tb k) = t := by unfold tg at ht; rw [if_neg h0] at ht; exact ht
  obtain ⟨a1, a2, a3, q', a4⟩ := h k h0
  obtain ⟨b1, b2⟩ := a4.2.2.2.2 (by omega)
  rw [ht'] at b1 b2
  exact ⟨a1, a2, b1, b2, a3⟩
/-! attributes, members -/
/-- the list of attributes at a is whole -/
def pAt (F : Nat → Nat) (n a : Nat) : Prop := a + 2 ≤ n ∧ atp F a (U2 F a) ≤ n ∧ ∀ j, j < U2 F a → atp F a j + 6 + U4 F (atp F a j + 2) ≤ n ∧ atp F a j + 6 + U4 F (atp F a j + 2) ≤ atp F a (U2 F a)
theorem atp_le {F : Nat → Nat} {a i : Nat} : ∀ k, i ≤ k → atp F a i ≤ atp F a k := by
  intro k
  induction k with
  | zero => intro h; rw [show i = 0 by omega]; exact Nat.le_refl _
  | succ k ih =>
    intro h
    rcases Nat.lt_or_eq_of_le h with z | z
    · have := ih (by omega)
      have := atp_s F a k
      omega
    · rw [z]; exact Nat.le_refl _
theorem xAtt_p {F : Nat → Nat} {n a : Nat} : ∀ c i q', xAtt F n c (atp F a i) = .ok q' → q' = atp F a (i + c) ∧ (1 ≤ c → atp F a (i + c) ≤ n) := by
  intro c
  induction c with
  | zero =>
    intro i q' h
    cases h
    exact ⟨rfl, fun z => by omega⟩
  | succ c ih =>
    intro i q' h
    unfold xAtt at h
    by_cases x : atp F a i + 6 ≤ n
    · rw [if_pos x] at h
      by_cases y : atp F a i + 6 + U4 F (atp F a i + 2) ≤ n
      · rw [if_pos y] at h
        obtain ⟨h1, h2⟩ := ih (i + 1) q' h
        rw [show i + 1 + c = i + (c + 1) by omega] at h1 h2
        refine ⟨h1, fun _ => ?_⟩
        rcases Nat.eq_zero_or_pos c with z | z
        · subst z; exact y
        · exact h2 z
      · rw [if_neg y] at h; exact absurd h (by simp)
    · rw [if_neg x] at h; exact absurd h (by simp)
theorem xAtts_p {F : Nat → Nat} {n a q' : Nat} (h : xAtts F n a = .ok q') : pAt F n a ∧ q' = atp F a (U2 F a) := by
  unfold xAtts at h
  by_cases x : a + 2 ≤ n
  · rw [if_pos x] at h
    obtain ⟨h1, h2⟩ := xAtt_p (a := a) (U2 F a) 0 q' h
    rw [Nat.zero_add] at h1 h2
    have hn : atp F a (U2 F a) ≤ n := by
      rcases Nat.eq_zero_or_pos (U2 F a) with z | z
      · rw [z]; exact x
      · exact h2 z
    refine ⟨⟨x, hn, fun j hj => ?_⟩, h1⟩
    have e : atp F a (j + 1) ≤ atp F a (U2 F a) := atp_le _ hj
    rw [atp_s] at e
    exact ⟨by omega, e⟩
  · rw [if_neg x] at h; exact absurd h (by simp)
/-- members i .. i + c - 1 follow one another -/
def pMm (F : Nat → Nat) (n : Nat) (mt : Nat → Nat) (i c : Nat) : Prop := ∀ j, i ≤ j → j < i + c → mt j + 8 ≤ n ∧ pAt F n (mt j + 6) ∧ (j + 1 < i + c → mt (j + 1) = atp F (mt j + 6) (U2 F (mt j + 6)))
theorem xMem_p {F : Nat → Nat} {n : Nat} : ∀ c q i mt q' mt', xMem F n c q i mt = .ok (q', mt') → (∀ j, j < i → mt' j = mt j) ∧ pMm F n mt' i c ∧ (1 ≤ c → mt' i = q ∧ q' = atp F (mt' (i + c - 1) + 6) (U2 F (mt' (i + c - 1) + 6))) ∧ (c = 0 → q' = q) := by
  intro c
  induction c with
  | zero =>
    intro q i mt q' mt' h
    cases h
    exact ⟨fun _ _ => rfl, fun j h1 h2 => by omega, fun z => by omega, fun _ => rfl⟩
  | succ c ih =>
    intro q i mt q' mt' h
    unfold xMem at h
    by_cases x : q + 6 ≤ n
    · rw [if_pos x] at h
      cases e : xAtts F n (q + 6) with
      | error z => rw [e] at h; exact absurd h (by simp)
      | ok q1 =>
        rw [e] at h
        obtain ⟨p1, p2⟩ := xAtts_p e
        obtain ⟨a1, a2, a3, a4⟩ := ih _ _ _ _ _ h
        have mi : mt' i = q := by rw [a1 i (by omega), va_up_self]
        refine ⟨fun j hj => by rw [a1 j (by omega), va_up_ne _ _ (by omega)], fun j h1 h2 => ?_, fun _ => ⟨mi, ?_⟩, fun z => by omega⟩
        · rcases Nat.lt_or_eq_of_le h1 with z | z
          · obtain ⟨b1, b2, b3⟩ := a2 j (by omega) (by omega)
            exact ⟨b1, b2, fun y => b3 (by omega)⟩
          · subst z
            rw [mi]
            refine ⟨by have := p1.1; omega, p1, fun y => ?_⟩
            rw [(a3 (by omega)).1]; exact p2
        · rcases Nat.eq_zero_or_pos c with z | z
          · subst z
            rw [show i + (0 + 1) - 1 = i by omega, mi, a4 rfl]; exact p2
          · rw [(a3 z).2, show i + 1 + c - 1 = i + (c + 1) - 1 by omega]
    · rw [if_neg x] at h; exact absurd h (by simp)
theorem xMems_p {F : Nat → Nat} {n q i q' : Nat} {mt mt' : Nat → Nat} (h : xMems F n q i mt = .ok (q', mt')) : q + 2 ≤ n ∧ U2 F q ≤ 24 ∧ (∀ j, j < i → mt' j = mt j) ∧ pMm F n mt' i (U2 F q) ∧ (1 ≤ U2 F q → mt' i = q + 2 ∧ q' = atp F (mt' (i + U2 F q - 1) + 6) (U2 F (mt' (i + U2 F q - 1) + 6))) ∧ (U2 F q = 0 → q' = q + 2) := by
  unfold xMems at h
  by_cases x : q + 2 ≤ n
  · rw [if_pos x] at h
    by_cases y : U2 F q ≤ 24
    · rw [if_pos y] at h
      obtain ⟨a1, a2, a3, a4⟩ := xMem_p _ _ _ _ _ _ h
      exact ⟨x, y, a1, a2, a3, a4⟩
    · rw [if_neg y] at h; exact absurd h (by simp)
  · rw [if_neg x] at h; exact absurd h (by simp)
def xPl (F : Nat → Nat) (n : Nat) : Except E2 (Nat × (Nat → Nat)) := if 10 ≤ n then (if 1 ≤ U2 F 8 ∧ U2 F 8 ≤ 500 then xPool F n (U2 F 8) 500 1 10 (fun _ => 0) else .error (5, 8)) else .error (2, n)
theorem xPl_p {F : Nat → Nat} {n q : Nat} {tb : Nat → Nat} (h : xPl F n = .ok (q, tb)) : 10 ≤ n ∧ 1 ≤ U2 F 8 ∧ U2 F 8 ≤ 500 ∧ pPl F n tb (U2 F 8) ∧ 10 ≤ q := by
  unfold xPl at h
  by_cases x : 10 ≤ n
  · rw [if_pos x] at h
    by_cases y : 1 ≤ U2 F 8 ∧ U2 F 8 ≤ 500
    · rw [if_pos y] at h
      obtain ⟨a, b⟩ := xPool_p _ _ _ _ _ _ h (by omega) (by omega) (fun k hk => absurd rfl hk)
      exact ⟨x, y.1, y.2, a, b⟩
    · rw [if_neg y] at h; exact absurd h (by simp)
  · rw [if_neg x] at h; exact absurd h (by simp)
/-- the layout of a file that keeps rules 1 to 5 -/
def pLay (F : Nat → Nat) (n : Nat) (tb : Nat → Nat) (cl nf nm : Nat) (mt : Nat → Nat) (fa last : Nat) : Prop :=
  10 ≤ n ∧ 1 ≤ U2 F 8 ∧ U2 F 8 ≤ 500 ∧ pPl F n tb (U2 F 8) ∧ 10 ≤ cl ∧ cl + 8 ≤ n ∧ nf ≤ 24 ∧ nm ≤ 24 ∧ pMm F n mt 0 nf ∧ pMm F n mt nf nm ∧ pAt F n fa ∧ last = atp F fa (U2 F fa)
theorem xLay_p {F : Nat → Nat} {n : Nat} {tb : Nat → Nat} {cl nf nm : Nat} {mt : Nat → Nat} {fa last : Nat} (h : xLay F n = .ok (tb, cl, nf, nm, mt, fa, last)) : pLay F n tb cl nf nm mt fa last ∧ xHead F n 8 = .ok () ∧ xPl F n = .ok (cl, tb) ∧ ∃ q2 m2, xMems F n (cl + 8) 0 (fun _ => 0) = .ok (q2, m2) ∧ nf = U2 F (cl + 8) ∧ ∃ m3, xMems F n q2 nf m2 = .ok (fa, m3) ∧ m3 = mt ∧ nm = U2 F q2 ∧ xAtts F n fa = .ok last := by
  unfold xLay at h
  cases eH : xHead F n 8 with
  | error z => rw [eH] at h; exact absurd h (by simp)
  | ok u =>
    rw [eH] at h
    have h : xLay0 F n = .ok (tb, cl, nf, nm, mt, fa, last) := h
    have e0 : xLay0 F n = xLay1 F n (xPl F n) := by
      unfold xLay0 xPl
      by_cases x : 10 ≤ n
      · rw [if_pos x, if_pos x]
        by_cases y : 1 ≤ U2 F 8 ∧ U2 F 8 ≤ 500
        · rw [if_pos y, if_pos y]
        · rw [if_neg y, if_neg y]; rfl
      · rw [if_neg x, if_neg x]; rfl
    rw [e0] at h
    cases eP : xPl F n with
    | error z => rw [eP] at h; exact absurd h (by simp [xLay1])
    | ok qt =>
      obtain ⟨q, tb1⟩ := qt
      rw [eP] at h
      obtain ⟨p1, p2, p3, p4, p5⟩ := xPl_p eP
      unfold xLay1 at h
      by_cases x : q + 8 ≤ n
      · simp only [if_pos x] at h
        cases e1 : xMems F n (q + 8) 0 (fun _ => 0) with
        | error z => rw [e1] at h; exact absurd h (by simp [xLay2])
        | ok qm =>
          obtain ⟨q2, m2⟩ := qm
          rw [e1] at h
          unfold xLay2 at h
          simp only at h
          cases e2 : xMems F n q2 (U2 F (q + 8)) m2 with
          | error z => rw [e2] at h; exact absurd h (by simp [xLay3])
          | ok qm2 =>
            obtain ⟨q3, m3⟩ := qm2
            rw [e2] at h
            unfold xLay3 at h
            simp only at h
            cases e3 : xAtts F n q3 with
            | error z => rw [e3] at h; exact absurd h (by simp)
            | ok q4 =>
              rw [e3] at h
              simp only [Except.ok.injEq, Prod.mk.injEq] at h
              obtain ⟨rfl, rfl, rfl, rfl, rfl, rfl, rfl⟩ := h
              obtain ⟨a1, a2, a3, a4, a5, a6⟩ := xMems_p e1
              obtain ⟨b1, b2, b3, b4, b5, b6⟩ := xMems_p e2
              obtain ⟨c1, c2⟩ := xAtts_p e3
              refine ⟨⟨p1, p2, p3, p4, p5, x, a2, b2, fun j h1 h2 => ?_, b4, c1, c2⟩, rfl, rfl, q2, m2, e1, rfl, m3, e2, rfl, rfl, e3⟩
              have ej : m3 j = m2 j := b3 j (by omega)
              rw [ej]
              obtain ⟨d1, d2, d3⟩ := a4 j h1 h2
              exact ⟨d1, d2, fun y => by rw [b3 (j + 1) (by omega)]; exact d3 y⟩
      · simp only [if_neg x] at h; exact absurd h (by simp)
