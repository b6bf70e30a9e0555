/-! both sides' answers, as one function of the file -/
def rI (R : Nat → Int32) : Nat → Int := fun j => (R j).toInt
section VAL
variable {F tb mt : Nat → Nat} {n cl nf nm fa last : Nat}
abbrev caV (F tb mt : Nat → Nat) (nf i : Nat) : Nat := cP F tb mt nf i + 14
abbrev szV (F tb mt : Nat → Nat) (nf i : Nat) : Nat := cS F (cP F tb mt nf i)
abbrev qV (F tb mt : Nat → Nat) (nf i k : Nat) : Nat := stF F (caV F tb mt nf i) (szV F tb mt nf i) k
abbrev vIn (F tb mt : Nat → Nat) (nf nm : Nat) (t u : Int) : Prop := (0 ≤ t ∧ t < (nm : Int)) ∧ 0 ≤ u ∧ u < (nWf F tb mt nf t.toNat : Int)
def vC1 (F tb mt : Nat → Nat) (nf i k : Nat) : Int := (kdC (ocC F (caV F tb mt nf i + qV F tb mt nf i k)) : Int)
def vG1 (F tb mt : Nat → Nat) (cl nf nm i k : Nat) : Int := fiC F tb mt cl nf nm (caV F tb mt nf i) (szV F tb mt nf i) (nWf F tb mt nf i) (qV F tb mt nf i k)
def vT1 (F tb mt : Nat → Nat) (nf i k : Nat) (w : Int) : Int := if (F (caV F tb mt nf i + qV F tb mt nf i k) = 170 ∨ F (caV F tb mt nf i + qV F tb mt nf i k) = 171) ∧ 0 ≤ w ∧ w ≤ (swK F (caV F tb mt nf i) (qV F tb mt nf i k) (F (caV F tb mt nf i + qV F tb mt nf i k)) : Int) then numC F (caV F tb mt nf i) (szV F tb mt nf i) (nWf F tb mt nf i) (((qV F tb mt nf i k : Nat) : Int) + tgP F (caV F tb mt nf i) (qV F tb mt nf i k) w.toNat) else -1
def vC (F tb mt : Nat → Nat) (nf nm : Nat) (t u : Int) : Int := if vIn F tb mt nf nm t u then vC1 F tb mt nf t.toNat u.toNat else -1
def vFi (F tb mt : Nat → Nat) (cl nf nm : Nat) (t u : Int) : Int := if vIn F tb mt nf nm t u then vG1 F tb mt cl nf nm t.toNat u.toNat else 0
def vT (F tb mt : Nat → Nat) (nf nm : Nat) (t u w : Int) : Int := if vIn F tb mt nf nm t u then vT1 F tb mt nf t.toNat u.toNat w else -1
theorem swL_all {ca sz q M : Nat} {na : Nat → Int} (h : swG F ca sz na q (F (ca + q)) M = true) : ∀ w, w ≤ M → swL F ca sz na q (F (ca + q)) M w = true ∧ ptOk sz na ((q : Int) + tgP F ca q w) = true := by
  have S : ∀ w, w ≤ M → swL F ca sz na q (F (ca + q)) M w = true → ptOk sz na ((q : Int) + tgP F ca q w) = true ∧ swL F ca sz na q (F (ca + q)) M (w + 1) = true := by
    intro w hw e
    rw [swL_c hw] at e
    cases x : ptOk sz na ((q : Int) + tgP F ca q w)
    · rw [if_neg (by rw [x]; decide)] at e; cases e
    · rw [if_pos x] at e; exact ⟨rfl, e⟩
  intro w
  induction w with
  | zero => intro hw; have e : swL F ca sz na q (F (ca + q)) M 0 = true := by unfold swL; rw [if_pos rfl]; exact h
            exact ⟨e, (S 0 hw e).1⟩
  | succ w ih => intro hw; have e := (S w (by omega) (ih (by omega)).1).2
                 exact ⟨e, (S (w + 1) hw e).1⟩
/-- what a row of the model says, as numbers -/
theorem row_val {ca sz ml N q x te : Nat} {R T : Nat → Int32} (hF : isF F) (hq : q < sz) (hsp : 0 < spR F ca sz q) (hnf : nf + nm ≤ 48) (hN : N ≤ 1200) (hn : ca + sz ≤ n) (hok : insOk F tb mt cl nf nm ca sz ml (nbR F ca sz N) q (F (ca + q)) = true) (h : rowIs F tb mt cl nf nm ca sz ml (nbR F ca sz N) q (F (ca + q)) R T x te) (hte : te ≤ 28800) :
    rI R x = (kdC (ocC F (ca + q)) : Int) ∧ (rI R x = 170 ∨ rI R x = 171 → 0 ≤ rI R (x + 1) ∧ 0 ≤ rI R (x + 2) ∧ rI R (x + 1) + 2 * rI R (x + 2) < 40000) ∧
    fsX (rI R) (rI T) (x : Int) = fiC F tb mt cl nf nm ca sz N q ∧
    ∀ w : Int, tgX (rI R) (rI T) (x : Int) w = if (F (ca + q) = 170 ∨ F (ca + q) = 171) ∧ 0 ≤ w ∧ w ≤ (swK F ca q (F (ca + q)) : Int) then numC F ca sz N ((q : Int) + tgP F ca q w.toNat) else -1 := by
  by_cases b : F (ca + q) = 170 ∨ F (ca + q) = 171
  · unfold rowIs at h
    rw [if_pos b] at h
    obtain ⟨h1, ts, h2, h3, h4, h5⟩ := h
    obtain ⟨M, hM, -⟩ := swM_of rfl b hsp
    obtain ⟨hI, hK⟩ := swI_of hM hn
    have hM2 : M ≤ 201 := by unfold swIn at hI; omega
    rw [hK] at h3 h4 h5 ⊢
    have e1 : rI R x = (F (ca + q) : Int) := by show (R x).toInt = _; rw [h1]; exact zI_toInt (by omega)
    have e2 : rI R (x + 1) = (ts : Int) := by show (R (x + 1)).toInt = _; rw [h2]; exact zI_toInt (by omega)
    have e3 : rI R (x + 2) = (M : Int) := by show (R (x + 2)).toInt = _; rw [h3]; exact zI_toInt (by omega)
    have ek : kdC (ocC F (ca + q)) = F (ca + q) := by rw [show ocC F (ca + q) = F (ca + q) from if_neg (by omega)]; unfold kdC; rw [if_neg (by omega), if_neg (by omega), if_neg (by omega), if_neg (by omega), if_neg (by omega)]
    rw [ins_sw b, hK] at hok
    have hall := swL_all hok
    have eT : ∀ w, w ≤ M → rI T (ts + 2 * w) = numC F ca sz N ((q : Int) + tgP F ca q w) := by
      intro w hw
      have p := (hall w hw).2
      have r := nbR_rg F ca sz N ((q : Int) + tgP F ca q w).toNat
      show (T (ts + 2 * w)).toInt = _
      rw [h5 (2 * w) (by omega), ← num_na p]
      have et : tbL F ca (nbR F ca sz N) q (F (ca + q)) (2 * w) = nbR F ca sz N ((q : Int) + tgP F ca q w).toNat := by
        unfold tbL tgP
        by_cases z : w = 0
        · subst z; rfl
        · rw [if_neg (show ¬ 2 * w = 0 by omega), if_neg (show ¬ 2 * w % 2 = 1 by omega), if_neg z, show 2 * w / 2 = w by omega]
      rw [et]
      exact zI_toInt (by omega)
    refine ⟨by rw [e1, ek], fun _ => by rw [e2, e3]; omega, ?_, fun w => ?_⟩
    · unfold fsX
      rw [if_neg (by omega), Int.toNat_natCast, if_pos (by rw [e1]; omega), e2, Int.toNat_natCast, fi_sw ek b]
      exact eT 0 (by omega)
    · unfold tgX
      rw [if_neg (by omega), Int.toNat_natCast, e2, e3]
      by_cases z : 0 ≤ w ∧ w ≤ (M : Int)
      · rw [if_pos ⟨by rw [e1]; omega, z⟩, if_pos ⟨b, z⟩]
        have := eT w.toNat (by omega)
        rw [← this, show ((ts : Int) + 2 * w).toNat = ts + 2 * w.toNat by omega]
      · rw [if_neg (fun y => z y.2), if_neg (fun y => z y.2)]
  · unfold rowIs at h
    rw [if_neg b] at h
    obtain ⟨r, h0, h1, h2, h3⟩ := h
    have rt := row_tie hF hq hsp hnf hN ⟨fun z => b (Or.inl z), fun z => b (Or.inr z)⟩ h0
    obtain ⟨r1, r2, r3, r4, r5, r6, r7⟩ := rt
    have kl := kdC_lt hF (ca + q)
    have e1 : rI R x = r.1 := by show (R x).toInt = _; rw [h1]; exact zI_toInt (by omega)
    have e2 : rI R (x + 1) = r.2.1 := by show (R (x + 1)).toInt = _; rw [h2]; exact zI_toInt ⟨r4, r5⟩
    have e3 : rI R (x + 2) = r.2.2 := by show (R (x + 2)).toInt = _; rw [h3]; exact zI_toInt ⟨r6, r7⟩
    refine ⟨by rw [e1, r1], fun z => by rw [e1] at z; omega, ?_, fun w => ?_⟩
    · unfold fsX
      rw [if_neg (by omega), Int.toNat_natCast, if_neg (by rw [e1]; omega), e1, e2, e3]
      exact r2
    · unfold tgX
      rw [if_neg (by omega), Int.toNat_natCast, if_neg (fun y => by have := y.1; rw [e1] at this; omega), if_neg (fun y => b y.1)]
end VAL
section MOD
variable {F tb mt : Nat → Nat} {n cl nf nm fa last : Nat}
theorem good.le {i : Nat} (g : good F n tb cl nf nm mt fa last) (hi : i < nm) : caV F tb mt nf i + szV F tb mt nf i ≤ n ∧ nWf F tb mt nf i ≤ 1200 := by
  obtain ⟨g1, g2, g3, g4, g5, g6, g7, g8, g9, g10⟩ := g
  have c := cP_in g3 g7 hi
  obtain ⟨b1, b2, b3, b4, b5, b6, b7⟩ := g8 i hi
  have d := nWh_le (fst1_none _ _ g9 i (Nat.zero_le _) (by omega))
  have d' : nWf F tb mt nf i ≤ cS F (cP F tb mt nf i) := d
  exact ⟨by show cP F tb mt nf i + 14 + cS F (cP F tb mt nf i) ≤ n; omega, by omega⟩
theorem row_all {σ : mS} (g : good F n tb cl nf nm mt fa last) (hk : mKeep F tb mt nf nm cl σ) {i k : Nat} (hi : i < nm) (hk2 : k < nWf F tb mt nf i) : ∃ te, te ≤ 28800 ∧ rowIs F tb mt cl nf nm (caV F tb mt nf i) (szV F tb mt nf i) (U2 F (cP F tb mt nf i + 8)) (nbR F (caV F tb mt nf i) (szV F tb mt nf i) (nWf F tb mt nf i)) (qV F tb mt nf i k) (F (caV F tb mt nf i + qV F tb mt nf i k)) (σ.2.1 50) (σ.2.1 51) (3 * (nB F tb mt nf i + k)) te := by
  obtain ⟨-, -, -, -, -, te, h1, h2⟩ := hk
  exact ⟨te, h1, (h2 i hi).2.1 k hk2⟩
theorem rwA_v {t u : Int} : (vIn F tb mt nf nm t u → rwA true nm (nWf F tb mt nf) (nB F tb mt nf) t u = ((3 * (nB F tb mt nf t.toNat + u.toNat) : Nat) : Int)) ∧ (¬ vIn F tb mt nf nm t u → rwA true nm (nWf F tb mt nf) (nB F tb mt nf) t u = -1) := by
  unfold rwA
  refine ⟨fun h => ?_, fun h => ?_⟩
  · rw [if_pos ⟨decide_eq_true ⟨rfl, h.1.1, h.1.2⟩, h.2.1, h.2.2⟩]
  · rw [if_neg (fun z => h ⟨(of_decide_eq_true z.1).2, z.2.1, z.2.2⟩)]
theorem mod_val {σ : mS} (g : good F n tb cl nf nm mt fa last) (hk : mKeep F tb mt nf nm cl σ) (t u : Int) :
    cdX (rI (σ.2.1 50)) (rwA true nm (nWf F tb mt nf) (nB F tb mt nf) t u) = vC F tb mt nf nm t u ∧
    fsX (rI (σ.2.1 50)) (rI (σ.2.1 51)) (rwA true nm (nWf F tb mt nf) (nB F tb mt nf) t u) = vFi F tb mt cl nf nm t u ∧
    (∀ w, tgX (rI (σ.2.1 50)) (rI (σ.2.1 51)) (rwA true nm (nWf F tb mt nf) (nB F tb mt nf) t u) w = vT F tb mt nf nm t u w) ∧
    ∀ x : Nat, rwA true nm (nWf F tb mt nf) (nB F tb mt nf) t u = (x : Int) → rI (σ.2.1 50) x = 170 ∨ rI (σ.2.1 50) x = 171 → 0 ≤ rI (σ.2.1 50) (x + 1) ∧ 0 ≤ rI (σ.2.1 50) (x + 2) ∧ rI (σ.2.1 50) (x + 1) + 2 * rI (σ.2.1 50) (x + 2) < 40000 := by
  by_cases h : vIn F tb mt nf nm t u
  · have hi : t.toNat < nm := by have := h.1; omega
    have hu : u.toNat < nWf F tb mt nf t.toNat := by have := h.2; omega
    obtain ⟨te, h1, h2⟩ := row_all g hk hi hu
    obtain ⟨o1, o2, o3⟩ := g.ok hi hu
    obtain ⟨l1, l2⟩ := g.le hi
    have hnf := g.2.2.1.2.2.2.2.2.2.1
    have hnm := g.2.2.1.2.2.2.2.2.2.2.1
    obtain ⟨v1, v2, v3, v4⟩ := row_val g.1 o1 o2 (by omega) l2 l1 o3 h2 h1
    rw [rwA_v.1 h]
    refine ⟨?_, ?_, fun w => ?_, fun x hx => ?_⟩
    · unfold cdX vC
      rw [if_neg (by omega), if_pos h, Int.toNat_natCast]
      exact v1
    · unfold vFi
      rw [if_pos h]
      exact v3
    · unfold vT
      rw [if_pos h]
      exact v4 w
    · have : x = 3 * (nB F tb mt nf t.toNat + u.toNat) := by omega
      subst this
      exact v2
  · rw [rwA_v.2 h]
    refine ⟨?_, ?_, fun w => ?_, fun x hx => by omega⟩
    · unfold cdX vC; rw [if_pos (by omega), if_neg h]
    · unfold fsX vFi; rw [if_pos (by omega), if_neg h]
    · unfold tgX vT; rw [if_pos (by omega), if_neg h]
end MOD
