/-! what the model keeps of an instruction, and what the component answers of it -/
section TIE
variable {F tb mt : Nat → Nat} {cl nf nm ca sz ml N q : Nat}
theorem fi_0 (k : kdC (ocC F (ca + q)) = 300) : fiC F tb mt cl nf nm ca sz N q = piC F tb (ca + q) := if_pos k
theorem fi_1 (k : kdC (ocC F (ca + q)) = 301) : fiC F tb mt cl nf nm ca sz N q = plC F tb (ca + q) := by unfold fiC; rw [if_neg (by omega), if_pos k]
theorem fi_lo {x : Nat} (k : kdC (ocC F (ca + q)) = x) (hx : isLo x = true) : fiC F tb mt cl nf nm ca sz N q = (loC F (ca + q) : Int) := by
  have h := of_decide_eq_true hx
  unfold fiC; rw [if_neg (by omega), if_neg (by omega), if_pos (by rw [k]; exact hx)]
theorem fi_jp {x : Nat} (k : kdC (ocC F (ca + q)) = x) (hx : isJp x = true) : fiC F tb mt cl nf nm ca sz N q = numC F ca sz N ((q : Int) + jpO F (ca + q)) := by
  have h := of_decide_eq_true hx
  have h2 : isLo x = false := decide_eq_false (by omega)
  unfold fiC; rw [if_neg (by omega), if_neg (by omega), if_neg (by rw [k, h2]; decide), if_pos (by rw [k]; exact hx)]
theorem fi_sw {x : Nat} (k : kdC (ocC F (ca + q)) = x) (hx : x = 170 ∨ x = 171) : fiC F tb mt cl nf nm ca sz N q = numC F ca sz N ((q : Int) + tgP F ca q 0) := by
  have h2 : isLo x = false := decide_eq_false (by omega)
  have h3 : isJp x = false := decide_eq_false (by omega)
  have h4 : isSw x = true := decide_eq_true hx
  unfold fiC; rw [if_neg (by omega), if_neg (by omega), if_neg (by rw [k, h2]; decide), if_neg (by rw [k, h3]; decide), if_pos (by rw [k]; exact h4)]
theorem fi_fd {x : Nat} (k : kdC (ocC F (ca + q)) = x) (hx : x = 178 ∨ x = 179 ∨ x = 184) : fiC F tb mt cl nf nm ca sz N q = mbC F tb mt cl nf nm (enC F (ca + q)) := by
  have h2 : isLo x = false := decide_eq_false (by omega)
  have h3 : isJp x = false := decide_eq_false (by omega)
  have h4 : isSw x = false := decide_eq_false (by omega)
  unfold fiC; rw [if_neg (by omega), if_neg (by omega), if_neg (by rw [k, h2]; decide), if_neg (by rw [k, h3]; decide), if_neg (by rw [k, h4]; decide), if_pos (by
    rcases hx with z | z | z
    · exact Or.inl (by rw [k]; exact decide_eq_true (Or.inl z))
    · exact Or.inl (by rw [k]; exact decide_eq_true (Or.inr z))
    · exact Or.inr (by omega))]
theorem fi_no {x : Nat} (k : kdC (ocC F (ca + q)) = x) (hx : x ≠ 300 ∧ x ≠ 301 ∧ ¬ (x = 21 ∨ x = 25 ∨ x = 54 ∨ x = 58 ∨ x = 132 ∨ x = 22 ∨ x = 55) ∧ ¬ ((153 ≤ x ∧ x ≤ 167) ∨ x = 198 ∨ x = 199) ∧ ¬ (x = 170 ∨ x = 171) ∧ ¬ (x = 178 ∨ x = 179) ∧ x ≠ 184) : fiC F tb mt cl nf nm ca sz N q = 0 := by
  have h2 : isLo x = false := decide_eq_false hx.2.2.1
  have h3 : isJp x = false := decide_eq_false hx.2.2.2.1
  have h4 : isSw x = false := decide_eq_false hx.2.2.2.2.1
  have h5 : isFd x = false := decide_eq_false hx.2.2.2.2.2.1
  unfold fiC; rw [if_neg (by omega), if_neg (by omega), if_neg (by rw [k, h2]; decide), if_neg (by rw [k, h3]; decide), if_neg (by rw [k, h4]; decide), if_neg (by rw [k, h5]; rintro (z | z); exact absurd z (by decide); omega)]
/-- what a row must say -/
def rT (F tb mt : Nat → Nat) (cl nf nm ca sz N q : Nat) (r : R3) : Prop := r.1 = (kdC (ocC F (ca + q)) : Int) ∧ (if r.1 = 301 then r.2.2 else r.2.1) = fiC F tb mt cl nf nm ca sz N q ∧ (kdC (ocC F (ca + q)) ≠ 170 ∧ kdC (ocC F (ca + q)) ≠ 171) ∧ (-2147483648 ≤ r.2.1 ∧ r.2.1 < 2147483648 ∧ -2147483648 ≤ r.2.2 ∧ r.2.2 < 2147483648)
theorem rT_v {t v lo : Int} {x : Nat} (k : kdC (ocC F (ca + q)) = x) (e1 : t = (x : Int)) (h301 : x ≠ 301) (hsw : x ≠ 170 ∧ x ≠ 171) (e : v = fiC F tb mt cl nf nm ca sz N q) (hv : -2147483648 ≤ v ∧ v < 2147483648) (hl : lo = 0) : rT F tb mt cl nf nm ca sz N q (t, v, lo) := by
  refine ⟨by rw [k]; exact e1, ?_, by rw [k]; exact hsw, hv.1, hv.2, ?_, ?_⟩
  · show (if t = 301 then lo else v) = _
    rw [if_neg (by omega)]; exact e
  · show -2147483648 ≤ lo; omega
  · show lo < 2147483648; omega
theorem rT_l {v lo : Int} (k : kdC (ocC F (ca + q)) = 301) (e : lo = fiC F tb mt cl nf nm ca sz N q) (hv : -2147483648 ≤ v ∧ v < 2147483648) (hl : -2147483648 ≤ lo ∧ lo < 2147483648) : rT F tb mt cl nf nm ca sz N q (301, v, lo) := by
  refine ⟨by rw [k]; rfl, ?_, by rw [k]; decide, hv.1, hv.2, hl.1, hl.2⟩
  show (if (301 : Int) = 301 then lo else v) = _
  rw [if_pos rfl]; exact e
theorem rT_w {t v lo : Int} {x : Nat} (k : kdC (ocC F (ca + q)) = x) (e1 : t = (x : Int)) (h301 : x ≠ 301) (hsw : x ≠ 170 ∧ x ≠ 171) (e : v = fiC F tb mt cl nf nm ca sz N q) (hv : -2147483648 ≤ v ∧ v < 2147483648) (hl : -2147483648 ≤ lo ∧ lo < 2147483648) : rT F tb mt cl nf nm ca sz N q (t, v, lo) := by
  refine ⟨by rw [k]; exact e1, ?_, by rw [k]; exact hsw, hv.1, hv.2, hl.1, hl.2⟩
  show (if t = 301 then lo else v) = _
  rw [if_neg (by omega)]; exact e
theorem grR_e {k : Nat} {b : Int} {r : R3} (h : grR ml k b = some r) : r = (132, (k : Int), b) := by
  unfold grR at h
  by_cases z : k < ml
  · rw [if_pos z] at h; cases h; rfl
  · rw [if_neg z] at h; cases h
theorem lcR_e {t : Int} {k : Nat} {r : R3} (h : lcR ml t k = some r) : r = (t, (k : Int), 0) := by
  unfold lcR at h
  by_cases z : k + (if t = 22 ∨ t = 55 then 2 else 1) ≤ ml
  · rw [if_pos z] at h; cases h; rfl
  · rw [if_neg z] at h; cases h
theorem psR_e {F tb : Nat → Nat} {pc k g : Nat} {r : R3} (h : psR F tb pc k g = some r) : r = if g = 3 then (300, S4 F (tb k + 1), 0) else (301, S4 F (tb k + 1), S4 F (tb k + 5)) := by
  unfold psR at h
  cases x : isE F tb pc k g
  · rw [if_neg (by rw [x]; decide)] at h; cases h
  · rw [if_pos x] at h
    by_cases z : g = 3
    · rw [if_pos z] at h ⊢; cases h; rfl
    · rw [if_neg z] at h ⊢; cases h; rfl
theorem jpR_e {na : Nat → Int} {t x : Int} {r : R3} (h : jpR sz na t x = some r) : ptOk sz na x = true ∧ r = (t, na x.toNat, 0) := by
  unfold jpR at h
  cases z : ptOk sz na x
  · rw [if_neg (by rw [z]; decide)] at h; cases h
  · rw [if_pos z] at h; cases h; exact ⟨rfl, rfl⟩
theorem mrR_e {t v : Int} {r : R3} (h : mrR t v = some r) : 0 ≤ v ∧ r = (t, v, 0) := by
  unfold mrR at h
  by_cases z : 0 ≤ v
  · rw [if_pos z] at h; cases h; exact ⟨z, rfl⟩
  · rw [if_neg z] at h; cases h
theorem num_na {t : Int} (h : ptOk sz (nbR F ca sz N) t = true) : nbR F ca sz N t.toNat = numC F ca sz N t := by unfold numC; rw [if_pos h]
theorem sp_nz (hsp : 0 < spR F ca sz q) (h : F (ca + q) ≠ 170 ∧ F (ca + q) ≠ 171) (h6 : F (ca + q) ≠ 196) : spM (F (ca + q)) ≠ 0 := by
  intro z
  have e : sp1 F ca sz q = 0 := by unfold sp1; rw [z]; exact if_neg (by decide)
  have e2 : spX F ca sz q = 0 := by unfold spX; rw [e]; exact if_neg (by decide)
  unfold spR at hsp
  rw [e2] at hsp
  rw [if_pos (Or.inl (by omega))] at hsp
  omega
theorem spM_nz {b : Nat} (h : b < 256) (hz : spM b ≠ 0) : ¬ (34 ≤ b ∧ b ≤ 41) ∧ ¬ (67 ≤ b ∧ b ≤ 74) ∧ ¬ (11 ≤ b ∧ b ≤ 15) := by
  have : ∀ b, b < 256 → spM b ≠ 0 → ¬ (34 ≤ b ∧ b ≤ 41) ∧ ¬ (67 ≤ b ∧ b ≤ 74) ∧ ¬ (11 ≤ b ∧ b ≤ 15) := by decide +kernel
  exact this b h hz
theorem row_tie {r : R3} (hF : isF F) (hq : q < sz) (hsp : 0 < spR F ca sz q) (hnf : nf + nm ≤ 48) (hN : N ≤ 1200) (hb2 : F (ca + q) ≠ 170 ∧ F (ca + q) ≠ 171) (h : insN F tb mt cl nf nm ca sz ml (nbR F ca sz N) q (F (ca + q)) = some r) : rT F tb mt cl nf nm ca sz N q r := by
  obtain ⟨hv, hs2, hs3⟩ := sp_b hsp hq
  have hbb := hF (ca + q)
  have eo : F (ca + q) ≠ 196 → ocC F (ca + q) = F (ca + q) := fun z => if_neg z
  have hl0 := loC_lt hF (ca + q)
  have hel : F (ca + q) ≠ 196 → loC F (ca + q) = if 26 ≤ F (ca + q) ∧ F (ca + q) ≤ 45 then (F (ca + q) - 26) % 4 else if 59 ≤ F (ca + q) ∧ F (ca + q) ≤ 78 then (F (ca + q) - 59) % 4 else F (ca + q + 1) := fun z => if_neg z
  unfold insN at h
  have hlw : True := trivial
  by_cases c0 : 2 ≤ F (ca + q) ∧ F (ca + q) ≤ 8
  · rw [if_pos c0] at h
    cases h
    exact rT_v (by rw [eo (by omega)]; unfold kdC; rw [if_pos (by omega)]) rfl (by decide) (by decide) (by rw [fi_0 (by rw [eo (by omega)]; unfold kdC; rw [if_pos (by omega)])]; unfold piC; rw [if_neg (by omega), if_neg (by omega), if_neg (by omega)]) (by omega) rfl
  · rw [if_neg c0] at h
    by_cases c1 : F (ca + q) = 9 ∨ F (ca + q) = 10
    · rw [if_pos c1] at h
      cases h
      exact rT_l (by rw [eo (by omega)]; unfold kdC; rw [if_neg (by omega), if_pos (by omega)]) (by rw [fi_1 (by rw [eo (by omega)]; unfold kdC; rw [if_neg (by omega), if_pos (by omega)])]; unfold plC; rw [if_neg (by omega)]) (by decide) (by omega)
    · rw [if_neg c1] at h
      by_cases c2 : F (ca + q) = 16
      · rw [if_pos c2] at h
        cases h
        exact rT_v (by rw [eo (by omega)]; unfold kdC; rw [if_pos (by omega)]) rfl (by decide) (by decide) (by rw [fi_0 (by rw [eo (by omega)]; unfold kdC; rw [if_pos (by omega)])]; unfold piC; rw [if_pos c2]; rfl) (by have := sb_rg (hF (ca + (q + 1))); omega) rfl
      · rw [if_neg c2] at h
        by_cases c3 : F (ca + q) = 17
        · rw [if_pos c3] at h
          cases h
          exact rT_v (by rw [eo (by omega)]; unfold kdC; rw [if_pos (by omega)]) rfl (by decide) (by decide) (by rw [fi_0 (by rw [eo (by omega)]; unfold kdC; rw [if_pos (by omega)])]; unfold piC; rw [if_neg (by omega), if_pos c3]; rfl) (by have := S2_rg hF (ca + (q + 1)); omega) rfl
        · rw [if_neg c3] at h
          by_cases c4 : F (ca + q) = 18
          · rw [if_pos c4] at h
            have h := psR_e h
            rw [if_pos rfl] at h
            subst h
            exact rT_v (by rw [eo (by omega)]; unfold kdC; rw [if_pos (by omega)]) rfl (by decide) (by decide) (by rw [fi_0 (by rw [eo (by omega)]; unfold kdC; rw [if_pos (by omega)])]; unfold piC; rw [if_neg (by omega), if_neg (by omega), if_pos (by omega), show enC F (ca + q) = F (ca + q + 1) from if_pos c4]; rfl) (by have := S4_rg hF (tb (F (ca + (q + 1))) + 1); omega) rfl
          · rw [if_neg c4] at h
            by_cases c5 : F (ca + q) = 19
            · rw [if_pos c5] at h
              have h := psR_e h
              rw [if_pos rfl] at h
              subst h
              exact rT_v (by rw [eo (by omega)]; unfold kdC; rw [if_pos (by omega)]) rfl (by decide) (by decide) (by rw [fi_0 (by rw [eo (by omega)]; unfold kdC; rw [if_pos (by omega)])]; unfold piC; rw [if_neg (by omega), if_neg (by omega), if_pos (by omega), show enC F (ca + q) = U2 F (ca + q + 1) from (if_neg (by omega)).trans (if_pos (by omega))]; rfl) (by have := S4_rg hF (tb (U2 F (ca + (q + 1))) + 1); omega) rfl
            · rw [if_neg c5] at h
              by_cases c6 : F (ca + q) = 20
              · rw [if_pos c6] at h
                have h := psR_e h
                rw [if_neg (by decide)] at h
                subst h
                exact rT_l (by rw [eo (by omega)]; unfold kdC; rw [if_neg (by omega), if_pos (by omega)]) (by rw [fi_1 (by rw [eo (by omega)]; unfold kdC; rw [if_neg (by omega), if_pos (by omega)])]; unfold plC; rw [if_pos c6, show enC F (ca + q) = U2 F (ca + q + 1) from (if_neg (by omega)).trans (if_pos (by omega))]; rfl) (by have := S4_rg hF (tb (U2 F (ca + (q + 1))) + 1); omega) (by have := S4_rg hF (tb (U2 F (ca + (q + 1))) + 5); omega)
              · rw [if_neg c6] at h
                by_cases c7 : 26 ≤ F (ca + q) ∧ F (ca + q) ≤ 33
                · rw [if_pos c7] at h
                  have h := lcR_e h
                  subst h
                  have kk := (show kdC (ocC F (ca + q)) = 21 + (F (ca + q) - 26) / 4 from (by rw [eo (by omega)]; unfold kdC; rw [if_neg (by omega), if_neg (by omega), if_pos (by omega)]))
                  exact rT_v kk (by split <;> omega) (by omega) (by omega) (by rw [fi_lo kk (decide_eq_true (by omega)), hel (by omega), if_pos (by omega)]) (by omega) rfl
                · rw [if_neg c7] at h
                  by_cases c8 : 42 ≤ F (ca + q) ∧ F (ca + q) ≤ 45
                  · rw [if_pos c8] at h
                    have h := lcR_e h
                    subst h
                    have kk := (show kdC (ocC F (ca + q)) = 21 + (F (ca + q) - 26) / 4 from (by rw [eo (by omega)]; unfold kdC; rw [if_neg (by omega), if_neg (by omega), if_pos (by omega)]))
                    exact rT_v kk (by omega) (by omega) (by omega) (by rw [fi_lo kk (decide_eq_true (by omega)), hel (by omega), if_pos (by omega), show (F (ca + q) - 26) % 4 = F (ca + q) - 42 by omega]) (by omega) rfl
                  · rw [if_neg c8] at h
                    by_cases c9 : 59 ≤ F (ca + q) ∧ F (ca + q) ≤ 66
                    · rw [if_pos c9] at h
                      have h := lcR_e h
                      subst h
                      have kk := (show kdC (ocC F (ca + q)) = 54 + (F (ca + q) - 59) / 4 from (by rw [eo (by omega)]; unfold kdC; rw [if_neg (by omega), if_neg (by omega), if_neg (by omega), if_pos (by omega)]))
                      exact rT_v kk (by split <;> omega) (by omega) (by omega) (by rw [fi_lo kk (decide_eq_true (by omega)), hel (by omega), if_neg (by omega), if_pos (by omega)]) (by omega) rfl
                    · rw [if_neg c9] at h
                      by_cases c10 : 75 ≤ F (ca + q) ∧ F (ca + q) ≤ 78
                      · rw [if_pos c10] at h
                        have h := lcR_e h
                        subst h
                        have kk := (show kdC (ocC F (ca + q)) = 54 + (F (ca + q) - 59) / 4 from (by rw [eo (by omega)]; unfold kdC; rw [if_neg (by omega), if_neg (by omega), if_neg (by omega), if_pos (by omega)]))
                        exact rT_v kk (by omega) (by omega) (by omega) (by rw [fi_lo kk (decide_eq_true (by omega)), hel (by omega), if_neg (by omega), if_pos (by omega), show (F (ca + q) - 59) % 4 = F (ca + q) - 75 by omega]) (by omega) rfl
                      · rw [if_neg c10] at h
                        by_cases c11 : F (ca + q) = 21 ∨ F (ca + q) = 22 ∨ F (ca + q) = 25 ∨ F (ca + q) = 54 ∨ F (ca + q) = 55 ∨ F (ca + q) = 58
                        · rw [if_pos c11] at h
                          have h := lcR_e h
                          subst h
                          have kk := (show kdC (ocC F (ca + q)) = F (ca + q) from (by rw [eo (by omega)]; unfold kdC; rw [if_neg (by omega), if_neg (by omega), if_neg (by omega), if_neg (by omega), if_neg (by omega)]))
                          have hf1 := hF (ca + (q + 1))
                          exact rT_v kk rfl (by omega) (by omega) (by rw [fi_lo kk (decide_eq_true (by omega)), hel (by omega), if_neg (by omega), if_neg (by omega)]; rfl) (by omega) rfl
                        · rw [if_neg c11] at h
                          by_cases c12 : F (ca + q) = 132
                          · rw [if_pos c12] at h
                            have kk := (show kdC (ocC F (ca + q)) = F (ca + q) from (by rw [eo (by omega)]; unfold kdC; rw [if_neg (by omega), if_neg (by omega), if_neg (by omega), if_neg (by omega), if_neg (by omega)]))
                            have hf1 := hF (ca + (q + 1))
                            have hf2 := sb_rg (hF (ca + (q + 2)))
                            have h := grR_e h
                            subst h
                            exact rT_w kk (by omega) (by omega) (by omega) (by rw [fi_lo kk (decide_eq_true (by omega)), hel (by omega), if_neg (by omega), if_neg (by omega)]; rfl) (by omega) (by omega)
                          · rw [if_neg c12] at h
                            by_cases c13 : F (ca + q) = 196
                            · rw [if_pos c13] at h
                              have hw := hv c13
                              have eo2 : ocC F (ca + q) = F (ca + q + 1) := if_pos c13
                              have el2 : loC F (ca + q) = U2 F (ca + q + 2) := if_pos c13
                              have hu2 := U2_lt hF (ca + q + 2)
                              have hs2' := S2_rg hF (ca + q + 4)
                              have h : wdR F ca ml q (F (ca + q + 1)) = some r := h
                              unfold wdR at h
                              by_cases d : F (ca + q + 1) = 132
                              · rw [if_pos d] at h
                                have kk : kdC (ocC F (ca + q)) = 132 := by rw [eo2, d]; decide
                                have h := grR_e h
                                subst h
                                exact rT_w kk rfl (by decide) (by decide) (by rw [fi_lo kk (by decide), el2]; rfl) (by show -2147483648 ≤ ((U2 F (ca + q + 2) : Nat) : Int) ∧ ((U2 F (ca + q + 2) : Nat) : Int) < 2147483648; omega) (by show -2147483648 ≤ S2 F (ca + q + 4) ∧ S2 F (ca + q + 4) < 2147483648; omega)
                              · rw [if_neg d] at h
                                have w : F (ca + q + 1) = 21 ∨ F (ca + q + 1) = 22 ∨ F (ca + q + 1) = 25 ∨ F (ca + q + 1) = 54 ∨ F (ca + q + 1) = 55 ∨ F (ca + q + 1) = 58 := by
                                  unfold wdN at hw
                                  rw [if_neg d] at hw
                                  by_cases c : F (ca + q + 1) = 21 ∨ F (ca + q + 1) = 22 ∨ F (ca + q + 1) = 25 ∨ F (ca + q + 1) = 54 ∨ F (ca + q + 1) = 55 ∨ F (ca + q + 1) = 58
                                  · exact c
                                  · rw [if_neg c] at hw; exact absurd rfl hw
                                have kk : kdC (ocC F (ca + q)) = F (ca + q + 1) := by rw [eo2]; unfold kdC; rw [if_neg (by omega), if_neg (by omega), if_neg (by omega), if_neg (by omega), if_neg (by omega)]
                                have h := lcR_e h
                                subst h
                                exact rT_v kk rfl (by omega) (by omega) (by rw [fi_lo kk (decide_eq_true (by omega)), el2]; rfl) (by show -2147483648 ≤ ((U2 F (ca + q + 2) : Nat) : Int) ∧ ((U2 F (ca + q + 2) : Nat) : Int) < 2147483648; omega) rfl
                            · rw [if_neg c13] at h
                              by_cases c14 : (153 ≤ F (ca + q) ∧ F (ca + q) ≤ 167) ∨ F (ca + q) = 198 ∨ F (ca + q) = 199
                              · rw [if_pos c14] at h
                                have h : jpR sz (nbR F ca sz N) (F (ca + q) : Int) ((q : Int) + S2 F (ca + q + 1)) = some r := h
                                have kk := (show kdC (ocC F (ca + q)) = F (ca + q) from (by rw [eo (by omega)]; unfold kdC; rw [if_neg (by omega), if_neg (by omega), if_neg (by omega), if_neg (by omega), if_neg (by omega)]))
                                obtain ⟨h1, h⟩ := jpR_e h
                                subst h
                                have hr := nbR_rg F ca sz N ((q : Int) + S2 F (ca + q + 1)).toNat
                                exact rT_v kk rfl (by omega) (by omega) (by rw [fi_jp kk (decide_eq_true (by omega)), show jpO F (ca + q) = S2 F (ca + q + 1) from if_neg (by omega)]; exact num_na h1) (by omega) rfl
                              · rw [if_neg c14] at h
                                by_cases c15 : F (ca + q) = 200
                                · rw [if_pos c15] at h
                                  have h : jpR sz (nbR F ca sz N) 167 ((q : Int) + S4 F (ca + q + 1)) = some r := h
                                  have kk : kdC (ocC F (ca + q)) = 167 := by rw [eo (by omega), c15]; decide
                                  obtain ⟨h1, h⟩ := jpR_e h
                                  subst h
                                  have hr := nbR_rg F ca sz N ((q : Int) + S4 F (ca + q + 1)).toNat
                                  exact rT_v kk rfl (by decide) (by decide) (by rw [fi_jp kk (by decide), show jpO F (ca + q) = S4 F (ca + q + 1) from if_pos c15]; exact num_na h1) (by omega) rfl
                                · rw [if_neg c15] at h
                                  by_cases c16 : F (ca + q) = 178 ∨ F (ca + q) = 179
                                  · rw [if_pos c16] at h
                                    have hee : enC F (ca + q) = U2 F (ca + q + 1) := (if_neg (by omega)).trans (if_pos (by omega))
                                    have kk := (show kdC (ocC F (ca + q)) = F (ca + q) from (by rw [eo (by omega)]; unfold kdC; rw [if_neg (by omega), if_neg (by omega), if_neg (by omega), if_neg (by omega), if_neg (by omega)]))
                                    have h : mrR (F (ca + q) : Int) (mbR F tb mt (U2 F 8) cl nf nm (U2 F (ca + q + 1)) 9) = some r := h
                                    obtain ⟨h1, h⟩ := mrR_e h
                                    subst h
                                    have hr := mbR_rg F tb mt (U2 F 8) cl nf nm (U2 F (ca + q + 1)) 9
                                    have hi : isE F tb (U2 F 8) (U2 F (ca + q + 1)) 9 = true := by cases x : isE F tb (U2 F 8) (U2 F (ca + q + 1)) 9; (rw [mbR_no x] at h1; omega); rfl
                                    exact rT_v kk rfl (by omega) (by omega) (by rw [fi_fd kk (by omega), hee, mbC_9' hi]) (by omega) rfl
                                  · rw [if_neg c16] at h
                                    by_cases c17 : F (ca + q) = 184
                                    · rw [if_pos c17] at h
                                      have hee : enC F (ca + q) = U2 F (ca + q + 1) := (if_neg (by omega)).trans (if_pos (by omega))
                                      have kk := (show kdC (ocC F (ca + q)) = F (ca + q) from (by rw [eo (by omega)]; unfold kdC; rw [if_neg (by omega), if_neg (by omega), if_neg (by omega), if_neg (by omega), if_neg (by omega)]))
                                      have h : mrR (F (ca + q) : Int) (mbR F tb mt (U2 F 8) cl nf nm (U2 F (ca + q + 1)) 10) = some r := h
                                      obtain ⟨h1, h⟩ := mrR_e h
                                      subst h
                                      have hr := mbR_rg F tb mt (U2 F 8) cl nf nm (U2 F (ca + q + 1)) 10
                                      have hi : isE F tb (U2 F 8) (U2 F (ca + q + 1)) 10 = true := by cases x : isE F tb (U2 F 8) (U2 F (ca + q + 1)) 10; (rw [mbR_no x] at h1; omega); rfl
                                      exact rT_v kk rfl (by omega) (by omega) (by rw [fi_fd kk (by omega), hee, mbC_10' hi]) (by omega) rfl
                                    · rw [if_neg c17] at h
                                      cases h
                                      have hz : spM (F (ca + q)) ≠ 0 := sp_nz hsp hb2 c13
                                      have hz2 := spM_nz hbb hz
                                      have kk := (show kdC (ocC F (ca + q)) = F (ca + q) from (by rw [eo (by omega)]; unfold kdC; rw [if_neg (by omega), if_neg (by omega), if_neg (by omega), if_neg (by omega), if_neg (by omega)]))
                                      exact rT_v kk rfl (by omega) (by omega) (fi_no kk ⟨by omega, by omega, by omega, by omega, by omega, by omega, by omega⟩).symm (by decide) rfl
end TIE
