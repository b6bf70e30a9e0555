/-! the component: a method's numbers; what rule 16 asks of an instruction, by its kind -/
def cMt (τ : mS) (F : Nat → Nat) (n ca sz ml ch cn f0 N bm : Nat) : Prop := bm < 24 ∧ ca + sz < n ∧ sz ≤ 1200 ∧ isWh F ca sz N ∧ f0 + N ≤ 16000 ∧ ml ≤ 24 ∧ τ.2.1 22 bm = zI (ml : Int) ∧ τ.2.1 24 bm = zI (ca : Int) ∧ τ.2.1 25 bm = zI (sz : Int) ∧ τ.2.1 26 bm = zI (ch : Int) ∧ τ.2.1 27 bm = zI (cn : Int) ∧ τ.2.1 28 bm = zI (f0 : Int) ∧ τ.2.1 29 bm = zI (N : Int) ∧ ∀ j, j < N → τ.2.1 14 (f0 + j) = zI ((ca + stF F ca sz j : Nat) : Int)
def numC (F : Nat → Nat) (ca sz N : Nat) (t : Int) : Int := if ptOk sz (nbR F ca sz N) t = true then nbR F ca sz N t.toNat else -1
theorem numC_rg (F : Nat → Nat) (ca sz N : Nat) (t : Int) : -1 ≤ numC F ca sz N t ∧ numC F ca sz N t < (N : Int) + 1 := by
  have := nbR_rg F ca sz N t.toNat
  unfold numC
  split <;> omega
theorem numC_c (F : Nat → Nat) (ca sz N : Nat) (t : Int) : (numC F ca sz N t = -1 ∧ ptOk sz (nbR F ca sz N) t = false) ∨ (numC F ca sz N t ≠ -1 ∧ ptOk sz (nbR F ca sz N) t = true) := by
  unfold numC
  by_cases h : ptOk sz (nbR F ca sz N) t = true
  · have h2 := of_decide_eq_true h
    rw [if_pos h]
    exact Or.inr ⟨by omega, h⟩
  · rw [if_neg h]
    exact Or.inl ⟨rfl, by simpa using h⟩
theorem nbG_nb {F : Nat → Nat} {ca sz j : Nat} : ∀ N, nbG (fun i => ((ca + stF F ca sz i : Nat) : Int)) N ((ca + j : Nat) : Int) = nbR F ca sz N j := by
  intro N
  induction N with
  | zero => rfl
  | succ N ih =>
    unfold nbG nbR
    by_cases h : j = stF F ca sz N
    · rw [if_pos h, if_pos (by omega)]
    · rw [if_neg h, if_neg (by omega), ih]
theorem nbG_num {F : Nat → Nat} {ca sz N : Nat} {t : Int} (hw : isWh F ca sz N) (hT : -2147483648 ≤ (ca : Int) + t ∧ (ca : Int) + t < 4294967296 ∧ ca + sz ≤ 16000) : nbG (fun i => ((ca + stF F ca sz i : Nat) : Int)) N (wr ((ca : Int) + t)) = numC F ca sz N t := by
  have hno : ∀ T : Int, (T < ca ∨ (ca : Int) + sz ≤ T) → nbG (fun i => ((ca + stF F ca sz i : Nat) : Int)) N T = -1 := fun T h => nbG_no N (fun j hj => by
    have := (hw.2 j hj).1
    show ((ca + stF F ca sz j : Nat) : Int) ≠ T
    omega)
  unfold numC
  by_cases h : ptOk sz (nbR F ca sz N) t = true
  · have h2 := of_decide_eq_true h
    rw [if_pos h, show wr ((ca : Int) + t) = ((ca + t.toNat : Nat) : Int) from by unfold wr; rw [if_pos (by omega)]; omega, nbG_nb]
  · rw [if_neg h]
    by_cases a : 0 ≤ t ∧ t < (sz : Int)
    · rw [show wr ((ca : Int) + t) = ((ca + t.toNat : Nat) : Int) from by unfold wr; rw [if_pos (by omega)]; omega, nbG_nb]
      have r := nbR_rg F ca sz N t.toNat
      have : ¬ 0 ≤ nbR F ca sz N t.toNat := fun z => h (decide_eq_true ⟨a.1, a.2, z⟩)
      omega
    · refine hno _ ?_
      unfold wr
      split <;> omega
theorem c_num (l : Launch) (Z : zT) {H : Heap} {ad : Nat → Nat} {τ : mS} {X : List (Nat × va_E)} (hM : isC Z H ad τ X) {F : Nat → Nat} {n ca sz ml ch cn f0 N bm : Nat} (hm : cMt τ F n ca sz ml ch cn f0 N bm) (hn : n ≤ 16000) {T t : Int} (hT : T = (ca : Int) + t) (ht : -2147483648 ≤ T ∧ T < 4294967296) : zP l Z yX2_numberAt cX2_numberAt 7 (some .int) (rmk 2) [.ref (ad 0), .ref (ad (16 + bm)), zV T] H (zV (numC F ca sz N t)) := by
  subst hT
  obtain ⟨m1, m2, m3, m4, m5, m6, m7, m8, m9, m10, m11, m12, m13, m14⟩ := hm
  have hr : -2147483648 ≤ wr ((ca : Int) + t) ∧ wr ((ca : Int) + t) < 2147483648 := by unfold wr; split <;> omega
  have e : zI ((ca : Int) + t) = zI (wr ((ca : Int) + t)) := by
    unfold wr
    split
    · rfl
    · exact (zI_wrap _).symm
  have h := c_X2_numberAt l Z hM (g := fun i => ((ca + stF F ca sz i : Nat) : Int)) (N := N) (f0 := f0) m1 m12 m13 m5 m14 (fun j hj => by have := (m4.2 j hj).1; show 0 ≤ ((ca + stF F ca sz j : Nat) : Int) ∧ ((ca + stF F ca sz j : Nat) : Int) < 2147483648; omega) (fun j k h1 h2 => by have := stF_lt m4 k j h1 (by omega); show ((ca + stF F ca sz j : Nat) : Int) < ((ca + stF F ca sz k : Nat) : Int); omega) (wr ((ca : Int) + t)) hr
  rw [nbG_num m4 ⟨by omega, by omega, by omega⟩] at h
  show zP l Z yX2_numberAt cX2_numberAt 7 (some .int) (rmk 2) [.ref (ad 0), .ref (ad (16 + bm)), .int (zI ((ca : Int) + t))] H (zV (numC F ca sz N t))
  rw [e]
  exact h
/-! rule 16 by kinds -/
theorem lcR_s (ml : Nat) (t : Int) (k : Nat) : (lcR ml t k).isSome = decide (k + (if t = 22 ∨ t = 55 then 2 else 1) ≤ ml) := by
  unfold lcR
  by_cases h : k + (if t = 22 ∨ t = 55 then 2 else 1) ≤ ml
  · rw [if_pos h]; exact (decide_eq_true h).symm
  · rw [if_neg h]; exact (decide_eq_false h).symm
theorem grR_s (ml k : Nat) (b : Int) : (grR ml k b).isSome = decide (k < ml) := by
  unfold grR
  split
  · rename_i h; exact (decide_eq_true h).symm
  · rename_i h; exact (decide_eq_false h).symm
theorem mrR_s (t v : Int) : (mrR t v).isSome = decide (0 ≤ v) := by
  unfold mrR
  split
  · rename_i h; exact (decide_eq_true h).symm
  · rename_i h; exact (decide_eq_false h).symm
theorem jpR_s (sz : Nat) (na : Nat → Int) (t x : Int) : (jpR sz na t x).isSome = ptOk sz na x := by
  unfold jpR
  cases h : ptOk sz na x <;> rfl
theorem psR_s (F tb : Nat → Nat) (pc k g : Nat) : (psR F tb pc k g).isSome = isE F tb pc k g := by
  unfold psR
  cases h : isE F tb pc k g
  · rfl
  · rw [if_pos rfl]; split <;> rfl
/-- what a whole instruction's octets are -/
def vI (F : Nat → Nat) (p : Nat) : Prop := F p = 196 → wdN (F (p + 1)) ≠ 0
section LAD
variable {F tb mt : Nat → Nat} {cl nf nm ca sz ml q : Nat} {na : Nat → Int}

theorem ins_26 (h : 26 ≤ F (ca + q) ∧ F (ca + q) ≤ 33) : insOk F tb mt cl nf nm ca sz ml na q (F (ca + q)) = decide ((F (ca + q) - 26) % 4 + (if F (ca + q) < 30 then 1 else 2) ≤ ml) := by
  unfold insOk; rw [if_neg (by omega)]; unfold insN; rw [if_neg (by omega), if_neg (by omega), if_neg (by omega), if_neg (by omega), if_neg (by omega), if_neg (by omega), if_neg (by omega), if_pos (by omega), lcR_s]
  congr 1
  by_cases z : F (ca + q) < 30
  · rw [if_pos z, if_pos z, if_neg (by decide)]
  · rw [if_neg z, if_neg z, if_pos (by decide)]
theorem ins_42 (h : 42 ≤ F (ca + q) ∧ F (ca + q) ≤ 45) : insOk F tb mt cl nf nm ca sz ml na q (F (ca + q)) = decide ((F (ca + q) - 26) % 4 + 1 ≤ ml) := by
  unfold insOk; rw [if_neg (by omega)]; unfold insN; rw [if_neg (by omega), if_neg (by omega), if_neg (by omega), if_neg (by omega), if_neg (by omega), if_neg (by omega), if_neg (by omega), if_neg (by omega), if_pos (by omega), lcR_s, if_neg (by decide), show F (ca + q) - 42 = (F (ca + q) - 26) % 4 by omega]
theorem ins_59 (h : 59 ≤ F (ca + q) ∧ F (ca + q) ≤ 66) : insOk F tb mt cl nf nm ca sz ml na q (F (ca + q)) = decide ((F (ca + q) - 59) % 4 + (if F (ca + q) < 63 then 1 else 2) ≤ ml) := by
  unfold insOk; rw [if_neg (by omega)]; unfold insN; rw [if_neg (by omega), if_neg (by omega), if_neg (by omega), if_neg (by omega), if_neg (by omega), if_neg (by omega), if_neg (by omega), if_neg (by omega), if_neg (by omega), if_pos (by omega), lcR_s]
  congr 1
  by_cases z : F (ca + q) < 63
  · rw [if_pos z, if_pos z, if_neg (by decide)]
  · rw [if_neg z, if_neg z, if_pos (by decide)]
theorem ins_75 (h : 75 ≤ F (ca + q) ∧ F (ca + q) ≤ 78) : insOk F tb mt cl nf nm ca sz ml na q (F (ca + q)) = decide ((F (ca + q) - 59) % 4 + 1 ≤ ml) := by
  unfold insOk; rw [if_neg (by omega)]; unfold insN; rw [if_neg (by omega), if_neg (by omega), if_neg (by omega), if_neg (by omega), if_neg (by omega), if_neg (by omega), if_neg (by omega), if_neg (by omega), if_neg (by omega), if_neg (by omega), if_pos (by omega), lcR_s, if_neg (by decide), show F (ca + q) - 75 = (F (ca + q) - 59) % 4 by omega]
theorem ins_21 (h : F (ca + q) = 21 ∨ F (ca + q) = 22 ∨ F (ca + q) = 25 ∨ F (ca + q) = 54 ∨ F (ca + q) = 55 ∨ F (ca + q) = 58) : insOk F tb mt cl nf nm ca sz ml na q (F (ca + q)) = decide (F (ca + q + 1) + (if F (ca + q) = 22 ∨ F (ca + q) = 55 then 2 else 1) ≤ ml) := by
  unfold insOk; rw [if_neg (by omega)]; unfold insN; rw [if_neg (by omega), if_neg (by omega), if_neg (by omega), if_neg (by omega), if_neg (by omega), if_neg (by omega), if_neg (by omega), if_neg (by omega), if_neg (by omega), if_neg (by omega), if_neg (by omega), if_pos (by omega), lcR_s, show ca + (q + 1) = ca + q + 1 from rfl]
  congr 1
  by_cases z : F (ca + q) = 22 ∨ F (ca + q) = 55
  · rw [if_pos z, if_pos (by omega)]
  · rw [if_neg z, if_neg (by omega)]
theorem ins_132 (h : F (ca + q) = 132) : insOk F tb mt cl nf nm ca sz ml na q (F (ca + q)) = decide (F (ca + q + 1) + 1 ≤ ml) := by
  unfold insOk; rw [if_neg (by omega)]; unfold insN; rw [if_neg (by omega), if_neg (by omega), if_neg (by omega), if_neg (by omega), if_neg (by omega), if_neg (by omega), if_neg (by omega), if_neg (by omega), if_neg (by omega), if_neg (by omega), if_neg (by omega), if_neg (by omega), if_pos (by omega), grR_s]; rfl
theorem ins_196 (h : F (ca + q) = 196) : insOk F tb mt cl nf nm ca sz ml na q (F (ca + q)) = decide (U2 F (ca + q + 2) + (if F (ca + q + 1) = 22 ∨ F (ca + q + 1) = 55 then 2 else 1) ≤ ml) := by
  unfold insOk; rw [if_neg (by omega)]; unfold insN; rw [if_neg (by omega), if_neg (by omega), if_neg (by omega), if_neg (by omega), if_neg (by omega), if_neg (by omega), if_neg (by omega), if_neg (by omega), if_neg (by omega), if_neg (by omega), if_neg (by omega), if_neg (by omega), if_neg (by omega), if_pos (by omega)]
  show (wdR F ca ml q (F (ca + q + 1))).isSome = _
  unfold wdR
  by_cases z : F (ca + q + 1) = 132
  · rw [if_pos z, grR_s, if_neg (by omega)]; rfl
  · rw [if_neg z, lcR_s]
    show decide (U2 F (ca + q + 2) + _ ≤ ml) = _
    congr 1
    by_cases y : F (ca + q + 1) = 22 ∨ F (ca + q + 1) = 55
    · rw [if_pos y, if_pos (by omega)]
    · rw [if_neg y, if_neg (by omega)]
theorem ins_jmp (h : (153 ≤ F (ca + q) ∧ F (ca + q) ≤ 167) ∨ F (ca + q) = 198 ∨ F (ca + q) = 199) : insOk F tb mt cl nf nm ca sz ml na q (F (ca + q)) = ptOk sz na ((q : Int) + S2 F (ca + q + 1)) := by
  unfold insOk; rw [if_neg (by omega)]; unfold insN; rw [if_neg (by omega), if_neg (by omega), if_neg (by omega), if_neg (by omega), if_neg (by omega), if_neg (by omega), if_neg (by omega), if_neg (by omega), if_neg (by omega), if_neg (by omega), if_neg (by omega), if_neg (by omega), if_neg (by omega), if_neg (by omega), if_pos (by omega), jpR_s]; rfl
theorem ins_200 (h : F (ca + q) = 200) : insOk F tb mt cl nf nm ca sz ml na q (F (ca + q)) = ptOk sz na ((q : Int) + S4 F (ca + q + 1)) := by
  unfold insOk; rw [if_neg (by omega)]; unfold insN; rw [if_neg (by omega), if_neg (by omega), if_neg (by omega), if_neg (by omega), if_neg (by omega), if_neg (by omega), if_neg (by omega), if_neg (by omega), if_neg (by omega), if_neg (by omega), if_neg (by omega), if_neg (by omega), if_neg (by omega), if_neg (by omega), if_neg (by omega), if_pos (by omega), jpR_s]; rfl
theorem ins_178 (h : F (ca + q) = 178 ∨ F (ca + q) = 179) : insOk F tb mt cl nf nm ca sz ml na q (F (ca + q)) = decide (0 ≤ mbR F tb mt (U2 F 8) cl nf nm (U2 F (ca + q + 1)) 9) := by
  unfold insOk; rw [if_neg (by omega)]; unfold insN; rw [if_neg (by omega), if_neg (by omega), if_neg (by omega), if_neg (by omega), if_neg (by omega), if_neg (by omega), if_neg (by omega), if_neg (by omega), if_neg (by omega), if_neg (by omega), if_neg (by omega), if_neg (by omega), if_neg (by omega), if_neg (by omega), if_neg (by omega), if_neg (by omega), if_pos (by omega), mrR_s]; rfl
theorem ins_184 (h : F (ca + q) = 184) : insOk F tb mt cl nf nm ca sz ml na q (F (ca + q)) = decide (0 ≤ mbR F tb mt (U2 F 8) cl nf nm (U2 F (ca + q + 1)) 10) := by
  unfold insOk; rw [if_neg (by omega)]; unfold insN; rw [if_neg (by omega), if_neg (by omega), if_neg (by omega), if_neg (by omega), if_neg (by omega), if_neg (by omega), if_neg (by omega), if_neg (by omega), if_neg (by omega), if_neg (by omega), if_neg (by omega), if_neg (by omega), if_neg (by omega), if_neg (by omega), if_neg (by omega), if_neg (by omega), if_neg (by omega), if_pos (by omega), mrR_s]; rfl
theorem ins_18 (h : F (ca + q) = 18) : insOk F tb mt cl nf nm ca sz ml na q (F (ca + q)) = isE F tb (U2 F 8) (F (ca + q + 1)) 3 := by
  unfold insOk; rw [if_neg (by omega)]; unfold insN; rw [if_neg (by omega), if_neg (by omega), if_neg (by omega), if_neg (by omega), if_pos (by omega), psR_s]; rfl
theorem ins_19 (h : F (ca + q) = 19) : insOk F tb mt cl nf nm ca sz ml na q (F (ca + q)) = isE F tb (U2 F 8) (U2 F (ca + q + 1)) 3 := by
  unfold insOk; rw [if_neg (by omega)]; unfold insN; rw [if_neg (by omega), if_neg (by omega), if_neg (by omega), if_neg (by omega), if_neg (by omega), if_pos (by omega), psR_s]; rfl
theorem ins_20 (h : F (ca + q) = 20) : insOk F tb mt cl nf nm ca sz ml na q (F (ca + q)) = isE F tb (U2 F 8) (U2 F (ca + q + 1)) 5 := by
  unfold insOk; rw [if_neg (by omega)]; unfold insN; rw [if_neg (by omega), if_neg (by omega), if_neg (by omega), if_neg (by omega), if_neg (by omega), if_neg (by omega), if_pos (by omega), psR_s]; rfl

theorem ins_sw (h : F (ca + q) = 170 ∨ F (ca + q) = 171) : insOk F tb mt cl nf nm ca sz ml na q (F (ca + q)) = swG F ca sz na q (F (ca + q)) (swK F ca q (F (ca + q))) := by unfold insOk; rw [if_pos h]
theorem kd_lo (hv : vI F (ca + q)) (h : isLo (kdC (ocC F (ca + q))) = true) : insOk F tb mt cl nf nm ca sz ml na q (F (ca + q)) = decide (loC F (ca + q) + (if isLL (kdC (ocC F (ca + q))) = true then 1 else 0) < ml) := by
  have h := of_decide_eq_true h
  by_cases a : F (ca + q) = 196
  · have hw := hv a
    have eo : ocC F (ca + q) = F (ca + q + 1) := if_pos a
    have el : loC F (ca + q) = U2 F (ca + q + 2) := if_pos a
    have w : F (ca + q + 1) = 132 ∨ F (ca + q + 1) = 21 ∨ F (ca + q + 1) = 22 ∨ F (ca + q + 1) = 25 ∨ F (ca + q + 1) = 54 ∨ F (ca + q + 1) = 55 ∨ F (ca + q + 1) = 58 := by
      unfold wdN at hw
      by_cases b : F (ca + q + 1) = 132
      · exact Or.inl b
      · rw [if_neg b] at hw
        by_cases c : F (ca + q + 1) = 21 ∨ F (ca + q + 1) = 22 ∨ F (ca + q + 1) = 25 ∨ F (ca + q + 1) = 54 ∨ F (ca + q + 1) = 55 ∨ F (ca + q + 1) = 58
        · exact Or.inr c
        · rw [if_neg c] at hw; exact absurd rfl hw
    have ek : kdC (F (ca + q + 1)) = F (ca + q + 1) := by unfold kdC; rw [if_neg (by omega), if_neg (by omega), if_neg (by omega), if_neg (by omega), if_neg (by omega)]
    rw [ins_196 a, eo, ek, el]
    by_cases y : F (ca + q + 1) = 22 ∨ F (ca + q + 1) = 55
    · rw [if_pos y, if_pos (show isLL (F (ca + q + 1)) = true from decide_eq_true y), decide_eq_decide]; omega
    · rw [if_neg y, if_neg (by rw [show isLL (F (ca + q + 1)) = false from decide_eq_false y]; decide), decide_eq_decide]; omega
  · have eo : ocC F (ca + q) = F (ca + q) := if_neg a
    rw [eo] at h ⊢
    have FIN : ∀ (k lo x : Nat), kdC (F (ca + q)) = k → loC F (ca + q) = lo → (x = if k = 22 ∨ k = 55 then 2 else 1) → decide (lo + x ≤ ml) = decide (loC F (ca + q) + (if isLL (kdC (F (ca + q))) = true then 1 else 0) < ml) := by
      intro k lo x e1 e2 e3
      rw [e1, e2]
      by_cases y : k = 22 ∨ k = 55
      · rw [if_pos (show isLL k = true from decide_eq_true y), decide_eq_decide]; rw [if_pos y] at e3; omega
      · rw [if_neg (by rw [show isLL k = false from decide_eq_false y]; decide), decide_eq_decide]; rw [if_neg y] at e3; omega
    have el0 : loC F (ca + q) = if 26 ≤ F (ca + q) ∧ F (ca + q) ≤ 45 then (F (ca + q) - 26) % 4 else if 59 ≤ F (ca + q) ∧ F (ca + q) ≤ 78 then (F (ca + q) - 59) % 4 else F (ca + q + 1) := if_neg a
    by_cases b1 : 26 ≤ F (ca + q) ∧ F (ca + q) ≤ 45
    · have ek : kdC (F (ca + q)) = 21 + (F (ca + q) - 26) / 4 := by unfold kdC; rw [if_neg (by omega), if_neg (by omega), if_pos b1]
      rw [if_pos b1] at el0
      rw [ek] at h
      rcases Nat.lt_or_ge (F (ca + q)) 34 with c | c
      · rw [ins_26 ⟨by omega, by omega⟩]
        refine FIN _ _ _ ek el0 ?_
        by_cases z : F (ca + q) < 30
        · rw [if_pos z, if_neg (by omega)]
        · rw [if_neg z, if_pos (by omega)]
      · rw [ins_42 ⟨by omega, by omega⟩]
        exact FIN _ _ _ ek el0 (by rw [if_neg (by omega)])
    · rw [if_neg b1] at el0
      by_cases b2 : 59 ≤ F (ca + q) ∧ F (ca + q) ≤ 78
      · have ek : kdC (F (ca + q)) = 54 + (F (ca + q) - 59) / 4 := by unfold kdC; rw [if_neg (by omega), if_neg (by omega), if_neg (by omega), if_pos b2]
        rw [if_pos b2] at el0
        rw [ek] at h
        rcases Nat.lt_or_ge (F (ca + q)) 67 with c | c
        · rw [ins_59 ⟨by omega, by omega⟩]
          refine FIN _ _ _ ek el0 ?_
          by_cases z : F (ca + q) < 63
          · rw [if_pos z, if_neg (by omega)]
          · rw [if_neg z, if_pos (by omega)]
        · rw [ins_75 ⟨by omega, by omega⟩]
          exact FIN _ _ _ ek el0 (by rw [if_neg (by omega)])
      · rw [if_neg b2] at el0
        have ek : kdC (F (ca + q)) = F (ca + q) := by
          unfold kdC at h ⊢
          by_cases c1 : (2 ≤ F (ca + q) ∧ F (ca + q) ≤ 8) ∨ (16 ≤ F (ca + q) ∧ F (ca + q) ≤ 19)
          · rw [if_pos c1] at h; omega
          · rw [if_neg c1] at h ⊢
            by_cases c2 : F (ca + q) = 9 ∨ F (ca + q) = 10 ∨ F (ca + q) = 20
            · rw [if_pos c2] at h; omega
            · rw [if_neg c2, if_neg b1, if_neg b2] at h ⊢
              by_cases c3 : F (ca + q) = 200
              · rw [if_pos c3] at h; omega
              · rw [if_neg c3]
        rw [ek] at h
        by_cases c : F (ca + q) = 132
        · rw [ins_132 c]
          exact FIN _ _ _ ek el0 (by rw [if_neg (by omega)])
        · rw [ins_21 (by omega)]
          exact FIN _ _ _ ek el0 rfl
theorem kd_nlo (hv : vI F (ca + q)) (h : isLo (kdC (ocC F (ca + q))) = false) : F (ca + q) ≠ 196 ∧ ocC F (ca + q) = F (ca + q) := by
  have a : F (ca + q) ≠ 196 := by
    intro a
    have hw := hv a
    have eo : ocC F (ca + q) = F (ca + q + 1) := if_pos a
    rw [eo] at h
    have h := of_decide_eq_false h
    unfold wdN at hw
    by_cases b : F (ca + q + 1) = 132
    · exact h (by unfold kdC; rw [if_neg (by omega), if_neg (by omega), if_neg (by omega), if_neg (by omega), if_neg (by omega)]; omega)
    · rw [if_neg b] at hw
      by_cases c : F (ca + q + 1) = 21 ∨ F (ca + q + 1) = 22 ∨ F (ca + q + 1) = 25 ∨ F (ca + q + 1) = 54 ∨ F (ca + q + 1) = 55 ∨ F (ca + q + 1) = 58
      · exact h (by unfold kdC; rw [if_neg (by omega), if_neg (by omega), if_neg (by omega), if_neg (by omega), if_neg (by omega)]; omega)
      · rw [if_neg c] at hw; exact hw rfl
  exact ⟨a, if_neg a⟩
theorem kd_jp {b : Nat} (h : isJp (kdC b) = true) : (153 ≤ b ∧ b ≤ 167) ∨ b = 198 ∨ b = 199 ∨ b = 200 := by
  have h := of_decide_eq_true h
  unfold kdC at h
  (repeat' split at h) <;> omega
theorem kd_sw {b : Nat} : isSw (kdC b) = decide (b = 170 ∨ b = 171) := by
  unfold isSw
  rw [decide_eq_decide]
  unfold kdC
  (repeat' split) <;> omega
theorem kd_fd {b : Nat} : isFd (kdC b) = decide (b = 178 ∨ b = 179) := by
  unfold isFd
  rw [decide_eq_decide]
  unfold kdC
  (repeat' split) <;> omega
theorem kd_else (h0 : isLo (kdC (F (ca + q))) = false) (h1 : isJp (kdC (F (ca + q))) = false) (h2 : F (ca + q) ≠ 170 ∧ F (ca + q) ≠ 171 ∧ F (ca + q) ≠ 178 ∧ F (ca + q) ≠ 179 ∧ F (ca + q) ≠ 184 ∧ F (ca + q) ≠ 18 ∧ F (ca + q) ≠ 19 ∧ F (ca + q) ≠ 20 ∧ F (ca + q) ≠ 196) : insOk F tb mt cl nf nm ca sz ml na q (F (ca + q)) = true := by
  have h0 := of_decide_eq_false h0
  have h1 := of_decide_eq_false h1
  have a : ¬ (26 ≤ F (ca + q) ∧ F (ca + q) ≤ 33) ∧ ¬ (42 ≤ F (ca + q) ∧ F (ca + q) ≤ 45) ∧ ¬ (59 ≤ F (ca + q) ∧ F (ca + q) ≤ 66) ∧ ¬ (75 ≤ F (ca + q) ∧ F (ca + q) ≤ 78) ∧ ¬ (F (ca + q) = 21 ∨ F (ca + q) = 22 ∨ F (ca + q) = 25 ∨ F (ca + q) = 54 ∨ F (ca + q) = 55 ∨ F (ca + q) = 58 ∨ F (ca + q) = 132) ∧ ¬ ((153 ≤ F (ca + q) ∧ F (ca + q) ≤ 167) ∨ F (ca + q) = 198 ∨ F (ca + q) = 199 ∨ F (ca + q) = 200) := by
    unfold kdC at h0 h1
    refine ⟨?_, ?_, ?_, ?_, ?_, ?_⟩ <;> (intro z; (repeat' split at h0) <;> (repeat' split at h1) <;> omega)
  obtain ⟨a1, a2, a3, a4, a5, a6⟩ := a
  unfold insOk
  rw [if_neg (by omega)]
  unfold insN
  by_cases c0 : 2 ≤ F (ca + q) ∧ F (ca + q) ≤ 8
  · rw [if_pos c0]; rfl
  · rw [if_neg c0]
    by_cases c1 : F (ca + q) = 9 ∨ F (ca + q) = 10
    · rw [if_pos c1]; rfl
    · rw [if_neg c1]
      by_cases c2 : F (ca + q) = 16
      · rw [if_pos c2]; rfl
      · rw [if_neg c2]
        by_cases c3 : F (ca + q) = 17
        · rw [if_pos c3]; rfl
        · rw [if_neg c3, if_neg (by omega), if_neg (by omega), if_neg (by omega), if_neg a1, if_neg a2, if_neg a3, if_neg a4, if_neg (by omega), if_neg (by omega), if_neg (by omega), if_neg (by omega), if_neg (by omega), if_neg (by omega), if_neg (by omega)]; rfl
end LAD
