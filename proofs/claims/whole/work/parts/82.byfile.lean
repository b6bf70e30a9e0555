/-! what both answer, of a good file -/
section BYF
variable {F tb mt : Nat → Nat} {n cl nf nm fa last : Nat} {H : Heap} {ad : Nat → Nat} {τ : mS} {X : List (Nat × va_E)} {o v0 a0 : Nat} {kn fd : Int}
theorem g_hb (hA : cAll τ F n tb cl nf nm mt fa last) (g : good F n tb cl nf nm mt fa last) : ∀ j, j < nm → τ.2.1 28 j = zI (nB F tb mt nf j : Int) ∧ τ.2.1 29 j = zI (nWf F tb mt nf j : Int) ∧ nB F tb mt nf j + nWf F tb mt nf j ≤ 16000 := by
  intro j hj
  obtain ⟨g1, g2, g3, g4, g5, g6, g7, g8, g9, g10⟩ := g
  have hm := cAll_m hA g3 g2 g7 g8 g9 hj
  have hc := (hA.2.1 j hj).2.2
  exact ⟨hc.1, hc.2.1, hm.2.2.2.2.1⟩
theorem g_mt (hA : cAll τ F n tb cl nf nm mt fa last) (g : good F n tb cl nf nm mt fa last) {i : Nat} (hi : i < nm) : cMt τ F n (caV F tb mt nf i) (szV F tb mt nf i) (U2 F (cP F tb mt nf i + 8)) (cH F (cP F tb mt nf i)) (cN F (cP F tb mt nf i)) (nB F tb mt nf i) (nWf F tb mt nf i) i := by
  obtain ⟨g1, g2, g3, g4, g5, g6, g7, g8, g9, g10⟩ := g
  exact cAll_m hA g3 g2 g7 g8 g9 hi
theorem vC_in {k i : Nat} (h1 : k < nm) (h2 : i < nWf F tb mt nf k) : vIn F tb mt nf nm (k : Int) (i : Int) := ⟨⟨by omega, by omega⟩, by omega, by rw [Int.toNat_natCast]; omega⟩
theorem vC_1 {k : Nat} {u : Int} (h2 : ¬ (0 ≤ u ∧ u < (nWf F tb mt nf k : Int))) : ¬ vIn F tb mt nf nm (k : Int) u := fun z => h2 (by have := z.2; rw [Int.toNat_natCast] at this; exact this)
theorem vC_0 {t u : Int} (h : ¬ (0 ≤ t ∧ t < (nm : Int))) : ¬ vIn F tb mt nf nm t u := fun z => h z.1
variable (l : Launch) (Z : zT)
theorem g_code (hM : isC Z H ad τ X) (hR : zAt Z H o (.inr (7, rF v0 a0 (ad 0) kn fd))) (hB : cSrc τ F n) (hA : cAll τ F n tb cl nf nm mt fa last) (g : good F n tb cl nf nm mt fa last) (t u : Int) (ht : -2147483648 ≤ t ∧ t ≤ 2147483647) (hu : -2147483648 ≤ u ∧ u ≤ 2147483647) : zP l Z yX11_code cX11_code 4 (some .int) (rmk 4) [.ref o, zV t, zV u] H (zV (vC F tb mt nf nm t u)) := by
  have hx3 := hA.1.2.2.2.1
  have hnm := g.2.2.1.2.2.2.2.2.2.2.1
  by_cases h1 : 0 ≤ t ∧ t < (nm : Int)
  · obtain ⟨k, rfl⟩ := Int.eq_ofNat_of_zero_le h1.1
    have hk : k < nm := by omega
    by_cases h2 : 0 ≤ u ∧ u < (nWf F tb mt nf k : Int)
    · obtain ⟨i, rfl⟩ := Int.eq_ofNat_of_zero_le h2.1
      have hi : i < nWf F tb mt nf k := by omega
      have e : vC F tb mt nf nm (k : Int) (i : Int) = (kdC (ocC F (caV F tb mt nf k + stF F (caV F tb mt nf k) (szV F tb mt nf k) i)) : Int) := by
        unfold vC
        rw [if_pos (vC_in hk hi), Int.toNat_natCast, Int.toNat_natCast]
        rfl
      rw [e]
      exact c_codeA l Z hM hR hB hx3 hnm (g_hb hA g) (g_mt hA g hk) hk rfl rfl hi
    · have e : vC F tb mt nf nm (k : Int) u = -1 := by unfold vC; rw [if_neg (vC_1 h2)]
      rw [e]
      exact c_codeB1 l Z hM hR hx3 hnm (g_hb hA g) k hk u hu h2
  · have e : vC F tb mt nf nm t u = -1 := by unfold vC; rw [if_neg (vC_0 h1)]
    rw [e]
    exact c_codeB0 l Z hM hR hx3 hnm (g_hb hA g) t ht h1 u
theorem g_first (hM : isC Z H ad τ X) (hR : zAt Z H o (.inr (7, rF v0 a0 (ad 0) kn fd))) (hB : cSrc τ F n) (hA : cAll τ F n tb cl nf nm mt fa last) (g : good F n tb cl nf nm mt fa last) (t u : Int) (ht : -2147483648 ≤ t ∧ t ≤ 2147483647) (hu : -2147483648 ≤ u ∧ u ≤ 2147483647) : zP l Z yX11_first cX11_first 5 (some .int) (rmk 6) [.ref o, zV t, zV u] H (zV (vFi F tb mt cl nf nm t u)) := by
  have hx3 := hA.1.2.2.2.1
  have hnf := g.2.2.1.2.2.2.2.2.2.1
  have hnm := g.2.2.1.2.2.2.2.2.2.2.1
  by_cases h1 : 0 ≤ t ∧ t < (nm : Int)
  · obtain ⟨k, rfl⟩ := Int.eq_ofNat_of_zero_le h1.1
    have hk : k < nm := by omega
    by_cases h2 : 0 ≤ u ∧ u < (nWf F tb mt nf k : Int)
    · obtain ⟨i, rfl⟩ := Int.eq_ofNat_of_zero_le h2.1
      have hi : i < nWf F tb mt nf k := by omega
      have e : vFi F tb mt cl nf nm (k : Int) (i : Int) = fiC F tb mt cl nf nm (caV F tb mt nf k) (szV F tb mt nf k) (nWf F tb mt nf k) (stF F (caV F tb mt nf k) (szV F tb mt nf k) i) := by
        unfold vFi
        rw [if_pos (vC_in hk hi), Int.toNat_natCast, Int.toNat_natCast]
        rfl
      rw [e]
      exact c_firstA l Z hM hR hB hx3 hnm (g_hb hA g) (g_mt hA g hk) hk rfl rfl hi hA.1.1 hA.2.2 (by omega) g.2.2.1.2.2.2.1 (g.ok hk hi).2.2
    · have e : vFi F tb mt cl nf nm (k : Int) u = 0 := by unfold vFi; rw [if_neg (vC_1 h2)]
      rw [e]
      exact c_firstB1 l Z hM hR hx3 hnm (g_hb hA g) k hk u hu h2
  · have e : vFi F tb mt cl nf nm t u = 0 := by unfold vFi; rw [if_neg (vC_0 h1)]
    rw [e]
    exact c_firstB0 l Z hM hR hx3 hnm (g_hb hA g) t ht h1 u
theorem g_target (hM : isC Z H ad τ X) (hR : zAt Z H o (.inr (7, rF v0 a0 (ad 0) kn fd))) (hB : cSrc τ F n) (hA : cAll τ F n tb cl nf nm mt fa last) (g : good F n tb cl nf nm mt fa last) (t u w : Int) (ht : -2147483648 ≤ t ∧ t ≤ 2147483647) (hu : -2147483648 ≤ u ∧ u ≤ 2147483647) (hw : -2147483648 ≤ w ∧ w ≤ 2147483647) : zP l Z yX11_target cX11_target 6 (some .int) (rmk 6) [.ref o, zV t, zV u, zV w] H (zV (vT F tb mt nf nm t u w)) := by
  have hx3 := hA.1.2.2.2.1
  have hnm := g.2.2.1.2.2.2.2.2.2.2.1
  by_cases h1 : 0 ≤ t ∧ t < (nm : Int)
  · obtain ⟨k, rfl⟩ := Int.eq_ofNat_of_zero_le h1.1
    have hk : k < nm := by omega
    by_cases h2 : 0 ≤ u ∧ u < (nWf F tb mt nf k : Int)
    · obtain ⟨i, rfl⟩ := Int.eq_ofNat_of_zero_le h2.1
      have hi : i < nWf F tb mt nf k := by omega
      have e : vT F tb mt nf nm (k : Int) (i : Int) w = vT1 F tb mt nf k i w := by
        unfold vT
        rw [if_pos (vC_in hk hi), Int.toNat_natCast, Int.toNat_natCast]
      rw [e]
      obtain ⟨o1, o2, o3⟩ := g.ok hk hi
      by_cases b : F (caV F tb mt nf k + qV F tb mt nf k i) = 170 ∨ F (caV F tb mt nf k + qV F tb mt nf k i) = 171
      · obtain ⟨M, hM2, -⟩ := swM_of rfl b o2
        obtain ⟨hI, hK⟩ := swI_of hM2 (g.le hk).1
        have e2 : vT1 F tb mt nf k i w = if 0 ≤ w ∧ w ≤ (M : Int) then numC F (caV F tb mt nf k) (szV F tb mt nf k) (nWf F tb mt nf k) (((stF F (caV F tb mt nf k) (szV F tb mt nf k) i : Nat) : Int) + tgP F (caV F tb mt nf k) (stF F (caV F tb mt nf k) (szV F tb mt nf k) i) w.toNat) else -1 := by
          unfold vT1
          rw [hK]
          by_cases z : 0 ≤ w ∧ w ≤ (M : Int)
          · rw [if_pos ⟨b, z⟩, if_pos z]
          · rw [if_neg (fun y => z y.2), if_neg z]
        rw [e2]
        exact c_targetA1 l Z hM hR hB hx3 hnm (g_hb hA g) (g_mt hA g hk) hk rfl rfl hi hI w hw
      · have e2 : vT1 F tb mt nf k i w = -1 := by unfold vT1; rw [if_neg (fun y => b y.1)]
        rw [e2]
        exact c_targetA0 l Z hM hR hB hx3 hnm (g_hb hA g) (g_mt hA g hk) hk rfl rfl hi ⟨fun y => b (Or.inl y), fun y => b (Or.inr y)⟩ w hw
    · have e : vT F tb mt nf nm (k : Int) u w = -1 := by unfold vT; rw [if_neg (vC_1 h2)]
      rw [e]
      exact c_targetB1 l Z hM hR hx3 hnm (g_hb hA g) k hk u hu h2 w hw
  · have e : vT F tb mt nf nm t u w = -1 := by unfold vT; rw [if_neg (vC_0 h1)]
    rw [e]
    exact c_targetB0 l Z hM hR hx3 hnm (g_hb hA g) t ht h1 u w hw
theorem g_method (hM : isC Z H ad τ X) (hR : zAt Z H o (.inr (7, rF v0 a0 (ad 0) kn fd))) (hB : cSrc τ F n) (hA : cAll τ F n tb cl nf nm mt fa last) (g : good F n tb cl nf nm mt fa last) (t u : Int) (ht : -2147483648 ≤ t ∧ t ≤ 2147483647) (hu : -2147483648 ≤ u ∧ u ≤ 2147483647) : zP l Z yX11_method cX11_method 4 (some .int) (rmk 3) [.ref o, zV t, zV u] H (zV (mtA true nm (hvM F tb mt nf) t u)) := by
  have hx3 := hA.1.2.2.2.1
  have hnm := g.2.2.1.2.2.2.2.2.2.2.1
  by_cases h1 : 0 ≤ t ∧ t < (nm : Int)
  · obtain ⟨k, rfl⟩ := Int.eq_ofNat_of_zero_le h1.1
    exact c_met1 l Z hM hR hB.2.1 hB.2.2.1 hA g k (by omega) u hu
  · exact c_met0 l Z hM hR hx3 hnm t ht h1 u
end BYF
/-! the model, of a good file -/
section BYM
variable {F tb mt : Nat → Nat} {n cl nf nm fa last : Nat} {H : Heap} {ad : Nat → Nat} {σ : mS} {o : Nat}
theorem k_48 (hk : mKeep F tb mt nf nm cl σ) : ∀ i, i < nm → σ.2.1 48 (6 * i) = zI (nWf F tb mt nf i : Int) ∧ σ.2.1 49 i = zI (nB F tb mt nf i : Int) ∧ nB F tb mt nf i + nWf F tb mt nf i ≤ 28800 := by
  intro i hi
  obtain ⟨-, -, -, -, -, te, h1, h2⟩ := hk
  obtain ⟨h3, -, h5⟩ := h2 i hi
  exact ⟨h3.1, h3.2.2.2.2.2.2, h5⟩
theorem k_hv (hk : mKeep F tb mt nf nm cl σ) : ∀ i w, i < nm → w < 6 → σ.2.1 48 (6 * i + w) = zI (hvM F tb mt nf i w) := by
  intro i w hi hw
  obtain ⟨-, -, -, -, -, te, h1, h2⟩ := hk
  obtain ⟨⟨a0, a1, a2, a3, a4, a5, -⟩, -, -⟩ := h2 i hi
  match w, hw with
  | 0, _ => exact a0
  | 1, _ => exact a1
  | 2, _ => exact a2
  | 3, _ => exact a3
  | 4, _ => exact a4
  | 5, _ => exact a5
theorem rI_ok (R : Nat → Int32) : ∀ x, R x = zI (rI R x) ∧ -2147483648 ≤ rI R x ∧ rI R x ≤ 2147483647 := fun x => ⟨zI_of _, by have := zI_rg (R x); unfold rI; omega⟩
theorem k_code (l : Launch) (Z : zT) (hM : isM Z H o ad σ) (hk : mKeep F tb mt nf nm cl σ) (g : good F n tb cl nf nm mt fa last) (t u : Int) (ht : -2147483648 ≤ t ∧ t ≤ 2147483647) (hu : -2147483648 ≤ u ∧ u ≤ 2147483647) : zP l Z yX12_code cX12_code 4 (some .int) (rmk 3) [.ref o, zV t, zV u] H (zV (vC F tb mt nf nm t u)) := by
  rw [← (mod_val g hk t u).1]
  exact c_X12_code l Z hM (th := true) hk.1 hk.2.1 hk.2.2.1 hk.2.2.2.1 g.2.2.1.2.2.2.2.2.2.1 g.2.2.1.2.2.2.2.2.2.2.1 t u ht hu (k_48 hk) (rI_ok _)
theorem k_first (l : Launch) (Z : zT) (hM : isM Z H o ad σ) (hk : mKeep F tb mt nf nm cl σ) (g : good F n tb cl nf nm mt fa last) (t u : Int) (ht : -2147483648 ≤ t ∧ t ≤ 2147483647) (hu : -2147483648 ≤ u ∧ u ≤ 2147483647) : zP l Z yX12_first cX12_first 5 (some .int) (rmk 3) [.ref o, zV t, zV u] H (zV (vFi F tb mt cl nf nm t u)) := by
  rw [← (mod_val g hk t u).2.1]
  exact c_X12_first l Z hM (th := true) hk.1 hk.2.1 hk.2.2.1 hk.2.2.2.1 g.2.2.1.2.2.2.2.2.2.1 g.2.2.1.2.2.2.2.2.2.2.1 t u ht hu (k_48 hk) (rI_ok _) (fun x => (rI_ok _ x).1) (mod_val g hk t u).2.2.2
theorem k_target (l : Launch) (Z : zT) (hM : isM Z H o ad σ) (hk : mKeep F tb mt nf nm cl σ) (g : good F n tb cl nf nm mt fa last) (t u w : Int) (ht : -2147483648 ≤ t ∧ t ≤ 2147483647) (hu : -2147483648 ≤ u ∧ u ≤ 2147483647) (hw : -2147483648 ≤ w ∧ w ≤ 2147483647) : zP l Z yX12_target cX12_target 5 (some .int) (rmk 3) [.ref o, zV t, zV u, zV w] H (zV (vT F tb mt nf nm t u w)) := by
  rw [← (mod_val g hk t u).2.2.1 w]
  exact c_X12_target l Z hM (th := true) hk.1 hk.2.1 hk.2.2.1 hk.2.2.2.1 g.2.2.1.2.2.2.2.2.2.1 g.2.2.1.2.2.2.2.2.2.2.1 t u w ht hu hw (k_48 hk) (rI_ok _) (fun x => (rI_ok _ x).1) (mod_val g hk t u).2.2.2
theorem k_method (l : Launch) (Z : zT) (hM : isM Z H o ad σ) (hk : mKeep F tb mt nf nm cl σ) (g : good F n tb cl nf nm mt fa last) (t u : Int) (ht : -2147483648 ≤ t ∧ t ≤ 2147483647) (hu : -2147483648 ≤ u ∧ u ≤ 2147483647) : zP l Z yX12_method cX12_method 3 (some .int) (rmk 2) [.ref o, zV t, zV u] H (zV (mtA true nm (hvM F tb mt nf) t u)) :=
  c_X12_method l Z hM (th := true) hk.1 hk.2.1 hk.2.2.1 hk.2.2.2.1 g.2.2.1.2.2.2.2.2.2.1 g.2.2.1.2.2.2.2.2.2.2.1 t u ht hu (k_hv hk)
theorem k_field (l : Launch) (Z : zT) (hM : isM Z H o ad σ) (hk : mKeep F tb mt nf nm cl σ) (g : good F n tb cl nf nm mt fa last) (t : Int) (ht : -2147483648 ≤ t ∧ t ≤ 2147483647) : zP l Z yX12_field cX12_field 2 (some .int) (rmk 1) [.ref o, zV t] H (zV (fdA true nf (fun k => fyN F tb (U2 F (mt k + 4))) t)) :=
  c_X12_field l Z hM (th := true) hk.1 hk.2.1 hk.2.2.1 hk.2.2.2.1 g.2.2.1.2.2.2.2.2.2.1 g.2.2.1.2.2.2.2.2.2.2.1 t ht hk.2.2.2.2.1
theorem k_size (l : Launch) (Z : zT) (hM : isM Z H o ad σ) (hk : mKeep F tb mt nf nm cl σ) (g : good F n tb cl nf nm mt fa last) (t : Int) (ht : -2147483648 ≤ t ∧ t ≤ 2147483647) : zP l Z yX12_size cX12_size 2 (some .int) (rmk 1) [.ref o, zV t] H (zV (szA true nf nm (U2 F 8) t)) :=
  c_X12_size l Z hM (th := true) hk.1 hk.2.1 hk.2.2.1 hk.2.2.2.1 g.2.2.1.2.2.2.2.2.2.1 g.2.2.1.2.2.2.2.2.2.2.1 t ht
/-! the model, nothing read -/
def lNo (σ : mS) : Prop := σ.1 43 = zI 0 ∧ σ.1 44 = zI 0 ∧ σ.1 45 = zI 0 ∧ σ.1 46 = zI 0
theorem rwA_no {rn fr : Nat → Nat} {t u : Int} : rwA false 0 rn fr t u = -1 := by
  unfold rwA mdA
  rw [if_neg (fun z => absurd (of_decide_eq_true z.1).1 (by decide))]
theorem u_code (l : Launch) (Z : zT) (hM : isM Z H o ad σ) (hk : lNo σ) (t u : Int) (ht : -2147483648 ≤ t ∧ t ≤ 2147483647) (hu : -2147483648 ≤ u ∧ u ≤ 2147483647) : zP l Z yX12_code cX12_code 4 (some .int) (rmk 3) [.ref o, zV t, zV u] H (zV (-1)) := by
  have K := c_X12_code l Z hM (th := false) (fl := 0) (me := 0) (po := 0) hk.1 hk.2.1 hk.2.2.1 hk.2.2.2 (by decide) (by decide) t u ht hu (rn := fun _ => 0) (fr := fun _ => 0) (fun i hi => absurd hi (Nat.not_lt_zero _)) (rI_ok _)
  rw [rwA_no] at K
  exact K
theorem u_first (l : Launch) (Z : zT) (hM : isM Z H o ad σ) (hk : lNo σ) (t u : Int) (ht : -2147483648 ≤ t ∧ t ≤ 2147483647) (hu : -2147483648 ≤ u ∧ u ≤ 2147483647) : zP l Z yX12_first cX12_first 5 (some .int) (rmk 3) [.ref o, zV t, zV u] H (zV 0) := by
  have K := c_X12_first l Z hM (th := false) (fl := 0) (me := 0) (po := 0) hk.1 hk.2.1 hk.2.2.1 hk.2.2.2 (by decide) (by decide) t u ht hu (rn := fun _ => 0) (fr := fun _ => 0) (fun i hi => absurd hi (Nat.not_lt_zero _)) (rI_ok _) (fun x => (rI_ok _ x).1) (fun x hx => by rw [rwA_no] at hx; omega)
  rw [rwA_no] at K
  exact K
theorem u_target (l : Launch) (Z : zT) (hM : isM Z H o ad σ) (hk : lNo σ) (t u w : Int) (ht : -2147483648 ≤ t ∧ t ≤ 2147483647) (hu : -2147483648 ≤ u ∧ u ≤ 2147483647) (hw : -2147483648 ≤ w ∧ w ≤ 2147483647) : zP l Z yX12_target cX12_target 5 (some .int) (rmk 3) [.ref o, zV t, zV u, zV w] H (zV (-1)) := by
  have K := c_X12_target l Z hM (th := false) (fl := 0) (me := 0) (po := 0) hk.1 hk.2.1 hk.2.2.1 hk.2.2.2 (by decide) (by decide) t u w ht hu hw (rn := fun _ => 0) (fr := fun _ => 0) (fun i hi => absurd hi (Nat.not_lt_zero _)) (rI_ok _) (fun x => (rI_ok _ x).1) (fun x hx => by rw [rwA_no] at hx; omega)
  rw [rwA_no] at K
  exact K
theorem mtA_no {th : Bool} {hv : Nat → Nat → Int} {t u : Int} : mtA th 0 hv t u = -1 := by
  unfold mtA mdA
  rw [if_neg (fun z => by have := (of_decide_eq_true z.1).2; omega)]
theorem u_method (l : Launch) (Z : zT) (hM : isM Z H o ad σ) (hk : lNo σ) (t u : Int) (ht : -2147483648 ≤ t ∧ t ≤ 2147483647) (hu : -2147483648 ≤ u ∧ u ≤ 2147483647) : zP l Z yX12_method cX12_method 3 (some .int) (rmk 2) [.ref o, zV t, zV u] H (zV (-1)) := by
  have K := c_X12_method l Z hM (th := false) (fl := 0) (me := 0) (po := 0) hk.1 hk.2.1 hk.2.2.1 hk.2.2.2 (by decide) (by decide) t u ht hu (hv := fun _ _ => 0) (fun i w hi => absurd hi (Nat.not_lt_zero _))
  rw [mtA_no] at K
  exact K
theorem u_field (l : Launch) (Z : zT) (hM : isM Z H o ad σ) (hk : lNo σ) (t : Int) (ht : -2147483648 ≤ t ∧ t ≤ 2147483647) : zP l Z yX12_field cX12_field 2 (some .int) (rmk 1) [.ref o, zV t] H (zV (-1)) := by
  have K := c_X12_field l Z hM (th := false) (fl := 0) (me := 0) (po := 0) hk.1 hk.2.1 hk.2.2.1 hk.2.2.2 (by decide) (by decide) t ht (ft := fun _ => 0) (fun k hk => absurd hk (Nat.not_lt_zero _))
  rw [show fdA false 0 (fun _ => 0) t = -1 from if_neg (fun z => absurd z.1 (by decide))] at K
  exact K
theorem u_size (l : Launch) (Z : zT) (hM : isM Z H o ad σ) (hk : lNo σ) (t : Int) (ht : -2147483648 ≤ t ∧ t ≤ 2147483647) : zP l Z yX12_size cX12_size 2 (some .int) (rmk 1) [.ref o, zV t] H (zV (szA false 0 0 0 t)) :=
  c_X12_size l Z hM (th := false) (fl := 0) (me := 0) (po := 0) hk.1 hk.2.1 hk.2.2.1 hk.2.2.2 (by decide) (by decide) t ht
end BYM
/-! the component, nothing read -/
section BYU
variable {H : Heap} {ad : Nat → Nat} {τ : mS} {X : List (Nat × va_E)} {o v0 a0 : Nat} {kn fd : Int}

set_option maxHeartbeats 4000000 in
set_option maxRecDepth 20000 in
theorem n_field (l : Launch) (Z : zT) (hM : isC Z H ad τ X) (hR : zAt Z H o (.inr (7, rF v0 a0 (ad 0) kn fd))) (h2 : τ.1 2 = zI 0) (t : Int) (ht : -2147483648 ≤ t ∧ t ≤ 2147483647) : zP l Z yX11_field cX11_field 2 (some .int) (rmk 3) [.ref o, zV t] H (zV (-1)) := by
  refine zM.introI (own := RX11) ⟨by decide, rfl⟩ (Nat.le_of_ble_eq_true rfl) ?_
  intro p e s m args below meth c Q ls hH C hl hret
  have hS : va_S (fun _ => False) s.heap H [] := by rw [hH]; exact va_S.rf
  have hl : lv_has ls 2 [(0, .ref o), (1, zV t)] := hl
  refine lv_iload_n C.1 C.2.1 dX11_field_0 rfl (lv_at hl 1 rfl) ?_
  refine y_if_lt (tgt := 15) C (a := t) dX11_field_1 (by decide) (by omega) (fun h1 => ?_) (fun h1 => ?_)
  · refine lv_iconst (v := zI (-1)) C.1 C.2.1 dX11_field_15 (by decide) ?_
    exact hret _ _ _ _ (zI (-1)) hS ⟨rfl, rfl⟩ rfl dX11_field_16
  · refine lv_iload_n C.1 C.2.1 dX11_field_4 rfl (lv_at hl 1 rfl) ?_
    refine lv_aload_n C.1 C.2.1 dX11_field_5 rfl (lv_at hl 0 rfl) ?_
    refine z_get C (v := .ref (ad 0)) hR rfl bi_wsX110 2 (by decide) zw_1_20 rfl rfl dX11_field_6 ?_
    refine z_get C (v := .int (τ.1 2)) hM.img rfl bi_wsX20 6 (by decide) zw_36_13 rfl rfl dX11_field_9 ?_
    refine z_re (y := zI 0) h2 ?_
    refine y_icmp_lt (tgt := 17) C (a := t) (b := 0) dX11_field_12 (by decide) (by omega) (fun h12 => ?_) (fun h12 => ?_)
    · exact absurd h12 (by omega)
    · refine lv_iconst (v := zI (-1)) C.1 C.2.1 dX11_field_15 (by decide) ?_
      exact hret _ _ _ _ (zI (-1)) hS ⟨rfl, rfl⟩ rfl dX11_field_16
theorem n_method (l : Launch) (Z : zT) (hM : isC Z H ad τ X) (hR : zAt Z H o (.inr (7, rF v0 a0 (ad 0) kn fd))) (h3 : τ.1 3 = zI 0) (t u : Int) (ht : -2147483648 ≤ t ∧ t ≤ 2147483647) : zP l Z yX11_method cX11_method 4 (some .int) (rmk 3) [.ref o, zV t, zV u] H (zV (-1)) := by
  have K := c_met0 l Z hM hR (nm := 0) h3 (by decide) (hv := fun _ _ => 0) t ht (by omega) u
  rw [mtA_no] at K
  exact K
theorem n_code (l : Launch) (Z : zT) (hM : isC Z H ad τ X) (hR : zAt Z H o (.inr (7, rF v0 a0 (ad 0) kn fd))) (h3 : τ.1 3 = zI 0) (t u : Int) (ht : -2147483648 ≤ t ∧ t ≤ 2147483647) : zP l Z yX11_code cX11_code 4 (some .int) (rmk 4) [.ref o, zV t, zV u] H (zV (-1)) :=
  c_codeB0 l Z hM hR (nm := 0) h3 (by decide) (fr := fun _ => 0) (rn := fun _ => 0) (fun j hj => absurd hj (Nat.not_lt_zero _)) t ht (by omega) u
theorem n_first (l : Launch) (Z : zT) (hM : isC Z H ad τ X) (hR : zAt Z H o (.inr (7, rF v0 a0 (ad 0) kn fd))) (h3 : τ.1 3 = zI 0) (t u : Int) (ht : -2147483648 ≤ t ∧ t ≤ 2147483647) : zP l Z yX11_first cX11_first 5 (some .int) (rmk 6) [.ref o, zV t, zV u] H (zV 0) :=
  c_firstB0 l Z hM hR (nm := 0) h3 (by decide) (fr := fun _ => 0) (rn := fun _ => 0) (fun j hj => absurd hj (Nat.not_lt_zero _)) t ht (by omega) u
theorem n_target (l : Launch) (Z : zT) (hM : isC Z H ad τ X) (hR : zAt Z H o (.inr (7, rF v0 a0 (ad 0) kn fd))) (h3 : τ.1 3 = zI 0) (t u w : Int) (ht : -2147483648 ≤ t ∧ t ≤ 2147483647) (hw : -2147483648 ≤ w ∧ w ≤ 2147483647) : zP l Z yX11_target cX11_target 6 (some .int) (rmk 6) [.ref o, zV t, zV u, zV w] H (zV (-1)) :=
  c_targetB0 l Z hM hR (nm := 0) h3 (by decide) (fr := fun _ => 0) (rn := fun _ => 0) (fun j hj => absurd hj (Nat.not_lt_zero _)) t ht (by omega) u w hw
end BYU
/-! the latest file: none, or a good one that both hold -/
def lwL (τB σ : mS) (kn : Int) : Prop :=
  (kn = 0 ∧ lNo σ ∧ τB.1 1 = zI 0 ∧ τB.1 2 = zI 0 ∧ τB.1 3 = zI 0) ∨
  (kn = 1 ∧ ∃ (G : Nat → Nat) (n : Nat) (tb : Nat → Nat) (cl nf nm : Nat) (mt : Nat → Nat) (fa last : Nat), good G n tb cl nf nm mt fa last ∧ cSrc τB G n ∧ cAll τB G n tb cl nf nm mt fa last ∧ mKeep G tb mt nf nm cl σ)
theorem mKeep.to {F tb mt : Nat → Nat} {nf nm cl : Nat} {σ σ' : mS} (h : mKeep F tb mt nf nm cl σ) (h1 : ∀ k, 43 ≤ k → k ≤ 46 → σ'.1 k = σ.1 k) (h2 : ∀ k, 47 ≤ k → k ≤ 51 → σ'.2.1 k = σ.2.1 k) : mKeep F tb mt nf nm cl σ' := by
  unfold mKeep mHd at *
  rw [h1 43 (by decide) (by decide), h1 44 (by decide) (by decide), h1 45 (by decide) (by decide), h1 46 (by decide) (by decide), h2 47 (by decide) (by decide), h2 48 (by decide) (by decide), h2 49 (by decide) (by decide), h2 50 (by decide) (by decide), h2 51 (by decide) (by decide)]
  exact h
theorem lwL.to {τB σ σ' : mS} {kn : Int} (h : lwL τB σ kn) (h1 : ∀ k, 43 ≤ k → k ≤ 46 → σ'.1 k = σ.1 k) (h2 : ∀ k, 47 ≤ k → k ≤ 51 → σ'.2.1 k = σ.2.1 k) : lwL τB σ' kn := by
  rcases h with ⟨rfl, ⟨a, b, c, d⟩, e⟩ | ⟨rfl, G, n, tb, cl, nf, nm, mt, fa, last, e1, e2, e3, e4⟩
  · exact Or.inl ⟨rfl, ⟨(h1 43 (by decide) (by decide)).trans a, (h1 44 (by decide) (by decide)).trans b, (h1 45 (by decide) (by decide)).trans c, (h1 46 (by decide) (by decide)).trans d⟩, e⟩
  · exact Or.inr ⟨rfl, G, n, tb, cl, nf, nm, mt, fa, last, e1, e2, e3, e4.to h1 h2⟩
/-! both answer the same, of the latest file -/
section LAT
variable {H : Heap} {ad adB adM : Nat → Nat} {τ τB σ : mS} {o oM : Nat} {kn fd : Int}
theorem b_size (l : Launch) (Z : zT) (hB : isC Z H adB (vv τ τB) []) (hR : zAt Z H o (.inr (7, rF (ad 15) (ad 0) (adB 0) kn fd))) (hM : isM Z H oM adM σ) (hL : lwL τB σ kn) (t : Int) (ht : -2147483648 ≤ t ∧ t ≤ 2147483647) :
    ∃ r : Int, zP l Z yX11_size cX11_size 2 (some .int) (rmk 1) [.ref o, zV t] H (zV r) ∧ zP l Z yX12_size cX12_size 2 (some .int) (rmk 1) [.ref oM, zV t] H (zV r) := by
  rcases hL with ⟨rfl, hk, e1, e2, e3⟩ | ⟨rfl, G, n, tb, cl, nf, nm, mt, fa, last, g, hs, hA, hk⟩
  · exact ⟨_, c_X11_size l Z hB hR (th := false) rfl (fl := 0) (me := 0) (po := 0) e2 e3 e1 t ht, u_size l Z hM hk t ht⟩
  · exact ⟨_, c_X11_size l Z hB hR (th := true) rfl hA.1.2.2.1 hA.1.2.2.2.1 hA.1.1.1 t ht, k_size l Z hM hk g t ht⟩
theorem b_field (l : Launch) (Z : zT) (hB : isC Z H adB (vv τ τB) []) (hR : zAt Z H o (.inr (7, rF (ad 15) (ad 0) (adB 0) kn fd))) (hM : isM Z H oM adM σ) (hL : lwL τB σ kn) (t : Int) (ht : -2147483648 ≤ t ∧ t ≤ 2147483647) :
    ∃ r : Int, zP l Z yX11_field cX11_field 2 (some .int) (rmk 3) [.ref o, zV t] H (zV r) ∧ zP l Z yX12_field cX12_field 2 (some .int) (rmk 1) [.ref oM, zV t] H (zV r) := by
  rcases hL with ⟨rfl, hk, e1, e2, e3⟩ | ⟨rfl, G, n, tb, cl, nf, nm, mt, fa, last, g, hs, hA, hk⟩
  · exact ⟨_, n_field l Z hB hR e2 t ht, u_field l Z hM hk t ht⟩
  · have hA2 : cAll (vv τ τB) G n tb cl nf nm mt fa last := hA
    exact ⟨_, c_X11_field l Z hB hR hs.2.1 hs.2.2.1 hA2 g t ht, k_field l Z hM hk g t ht⟩
theorem b_method (l : Launch) (Z : zT) (hB : isC Z H adB (vv τ τB) []) (hR : zAt Z H o (.inr (7, rF (ad 15) (ad 0) (adB 0) kn fd))) (hM : isM Z H oM adM σ) (hL : lwL τB σ kn) (t u : Int) (ht : -2147483648 ≤ t ∧ t ≤ 2147483647) (hu : -2147483648 ≤ u ∧ u ≤ 2147483647) :
    ∃ r : Int, zP l Z yX11_method cX11_method 4 (some .int) (rmk 3) [.ref o, zV t, zV u] H (zV r) ∧ zP l Z yX12_method cX12_method 3 (some .int) (rmk 2) [.ref oM, zV t, zV u] H (zV r) := by
  rcases hL with ⟨rfl, hk, e1, e2, e3⟩ | ⟨rfl, G, n, tb, cl, nf, nm, mt, fa, last, g, hs, hA, hk⟩
  · exact ⟨_, n_method l Z hB hR e3 t u ht, u_method l Z hM hk t u ht hu⟩
  · have hA2 : cAll (vv τ τB) G n tb cl nf nm mt fa last := hA
    have hs2 : cSrc (vv τ τB) G n := hs
    exact ⟨_, g_method l Z hB hR hs2 hA2 g t u ht hu, k_method l Z hM hk g t u ht hu⟩
theorem b_code (l : Launch) (Z : zT) (hB : isC Z H adB (vv τ τB) []) (hR : zAt Z H o (.inr (7, rF (ad 15) (ad 0) (adB 0) kn fd))) (hM : isM Z H oM adM σ) (hL : lwL τB σ kn) (t u : Int) (ht : -2147483648 ≤ t ∧ t ≤ 2147483647) (hu : -2147483648 ≤ u ∧ u ≤ 2147483647) :
    ∃ r : Int, zP l Z yX11_code cX11_code 4 (some .int) (rmk 4) [.ref o, zV t, zV u] H (zV r) ∧ zP l Z yX12_code cX12_code 4 (some .int) (rmk 3) [.ref oM, zV t, zV u] H (zV r) := by
  rcases hL with ⟨rfl, hk, e1, e2, e3⟩ | ⟨rfl, G, n, tb, cl, nf, nm, mt, fa, last, g, hs, hA, hk⟩
  · exact ⟨_, n_code l Z hB hR e3 t u ht, u_code l Z hM hk t u ht hu⟩
  · have hA2 : cAll (vv τ τB) G n tb cl nf nm mt fa last := hA
    have hs2 : cSrc (vv τ τB) G n := hs
    exact ⟨_, g_code l Z hB hR hs2 hA2 g t u ht hu, k_code l Z hM hk g t u ht hu⟩
theorem b_first (l : Launch) (Z : zT) (hB : isC Z H adB (vv τ τB) []) (hR : zAt Z H o (.inr (7, rF (ad 15) (ad 0) (adB 0) kn fd))) (hM : isM Z H oM adM σ) (hL : lwL τB σ kn) (t u : Int) (ht : -2147483648 ≤ t ∧ t ≤ 2147483647) (hu : -2147483648 ≤ u ∧ u ≤ 2147483647) :
    ∃ r : Int, zP l Z yX11_first cX11_first 5 (some .int) (rmk 6) [.ref o, zV t, zV u] H (zV r) ∧ zP l Z yX12_first cX12_first 5 (some .int) (rmk 3) [.ref oM, zV t, zV u] H (zV r) := by
  rcases hL with ⟨rfl, hk, e1, e2, e3⟩ | ⟨rfl, G, n, tb, cl, nf, nm, mt, fa, last, g, hs, hA, hk⟩
  · exact ⟨_, n_first l Z hB hR e3 t u ht, u_first l Z hM hk t u ht hu⟩
  · have hA2 : cAll (vv τ τB) G n tb cl nf nm mt fa last := hA
    have hs2 : cSrc (vv τ τB) G n := hs
    exact ⟨_, g_first l Z hB hR hs2 hA2 g t u ht hu, k_first l Z hM hk g t u ht hu⟩
theorem b_target (l : Launch) (Z : zT) (hB : isC Z H adB (vv τ τB) []) (hR : zAt Z H o (.inr (7, rF (ad 15) (ad 0) (adB 0) kn fd))) (hM : isM Z H oM adM σ) (hL : lwL τB σ kn) (t u w : Int) (ht : -2147483648 ≤ t ∧ t ≤ 2147483647) (hu : -2147483648 ≤ u ∧ u ≤ 2147483647) (hw : -2147483648 ≤ w ∧ w ≤ 2147483647) :
    ∃ r : Int, zP l Z yX11_target cX11_target 6 (some .int) (rmk 6) [.ref o, zV t, zV u, zV w] H (zV r) ∧ zP l Z yX12_target cX12_target 5 (some .int) (rmk 3) [.ref oM, zV t, zV u, zV w] H (zV r) := by
  rcases hL with ⟨rfl, hk, e1, e2, e3⟩ | ⟨rfl, G, n, tb, cl, nf, nm, mt, fa, last, g, hs, hA, hk⟩
  · exact ⟨_, n_target l Z hB hR e3 t u w ht hw, u_target l Z hM hk t u w ht hu hw⟩
  · have hA2 : cAll (vv τ τB) G n tb cl nf nm mt fa last := hA
    have hs2 : cSrc (vv τ τB) G n := hs
    exact ⟨_, g_target l Z hB hR hs2 hA2 g t u w ht hu hw, k_target l Z hM hk g t u w ht hu hw⟩
end LAT
