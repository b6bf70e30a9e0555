/-! the model: the lengths of instructions -/
theorem irem4 {b : Nat} (h : b < 2147483648) : zI (b : Int) - zI (b : Int) / zI 4 * zI 4 = zI ((b % 4 : Nat) : Int) := by
  have e : zI (b : Int) / zI 4 = zI ((b / 4 : Nat) : Int) := by
    refine Int32.toInt_inj.1 ?_
    rw [Int32.toInt_div, zI_toInt (by omega), zI_toInt (by omega), zI_toInt (by omega), Int.tdiv_eq_ediv_of_nonneg (by omega)]
    simp only [Int.bmod_def]
    split <;> omega
  rw [e]
  show Int32.ofInt _ - Int32.ofInt _ * Int32.ofInt _ = _
  rw [← Int32.ofInt_mul, ← Int32.ofInt_sub]
  exact zI_c (by omega)
def spM (b : Nat) : Int :=
  if b ≤ 10 ∨ (26 ≤ b ∧ b ≤ 33) ∨ (42 ≤ b ∧ b ≤ 46) ∨ (59 ≤ b ∧ b ≤ 66) ∨ (75 ≤ b ∧ b ≤ 79) then 1 else
  if (87 ≤ b ∧ b ≤ 90) ∨ b = 92 ∨ b = 95 ∨ (96 ≤ b ∧ b ≤ 119 ∧ b % 4 < 2) ∨ (120 ≤ b ∧ b ≤ 131) then 1 else
  if b = 133 ∨ b = 136 ∨ (145 ≤ b ∧ b ≤ 148) ∨ b = 172 ∨ b = 173 ∨ b = 176 ∨ b = 177 ∨ b = 190 ∨ b = 191 then 1 else
  if b = 16 ∨ b = 18 ∨ b = 21 ∨ b = 22 ∨ b = 25 ∨ b = 54 ∨ b = 55 ∨ b = 58 ∨ b = 188 then 2 else
  if b = 17 ∨ b = 19 ∨ b = 20 ∨ b = 132 ∨ (153 ≤ b ∧ b ≤ 167) ∨ b = 178 ∨ b = 179 ∨ b = 184 ∨ b = 198 ∨ b = 199 then 3 else
  if b = 200 then 5 else if b = 170 ∨ b = 171 then -1 else if b = 196 then -2 else 0
theorem spM_1 {b : Nat} (h : b ≤ 10 ∨ (26 ≤ b ∧ b ≤ 33) ∨ (42 ≤ b ∧ b ≤ 46) ∨ (59 ≤ b ∧ b ≤ 66) ∨ (75 ≤ b ∧ b ≤ 79)) : spM b = 1 := if_pos h
theorem spM_rg (b : Nat) : -2 ≤ spM b ∧ spM b ≤ 5 := by
  unfold spM
  (repeat' split) <;> decide

set_option maxHeartbeats 4000000 in
set_option maxRecDepth 20000 in
theorem c_X12_spanOf (l : Launch) (Z : zT) {H : Heap} {t : Int} (b : Nat) (ht : t = (b : Int)) (hb : b < 256) : zP l Z yX12_spanOf cX12_spanOf 1 (some .int) (rmk 1) [zV t] H (zV (spM b)) := by
  subst ht
  refine zM.introI (own := RX12) ⟨by decide, rfl⟩ (Nat.le_of_ble_eq_true rfl) ?_
  intro p e s m args below meth c Q ls hH C hl hret
  have hS : va_S (fun _ => False) s.heap H [] := by rw [hH]; exact va_S.rf
  have hl : lv_has ls 1 [(0, zN b)] := hl
  refine lv_iload_n C.1 C.2.1 dX12_spanOf_0 rfl (lv_at hl 0 rfl) ?_
  refine lv_bipush (v := zI 10) C.1 C.2.1 dX12_spanOf_1 (by decide) ?_
  refine y_icmp_le (tgt := 54) C (a := ((b : Nat) : Int)) (b := 10) dX12_spanOf_3 (by decide) (by omega) (fun h3 => ?_) (fun h3 => ?_)
  · refine lv_iconst (v := zI 1) C.1 C.2.1 dX12_spanOf_54 (by decide) ?_
    exact hret _ _ _ _ (zI 1) hS ⟨congrArg (fun x : Int => some (zV x)) (by show (1 : Int) = spM b; unfold spM; rw [if_pos (by omega)]), rfl⟩ rfl dX12_spanOf_55
  · have J18 : (¬ (26 ≤ b ∧ b ≤ 33)) → W p l e (rmk 1) s m args below meth c H [] 0 0 Q (F0 m 18 ls []) := by
      intro j18
      have J30 : (¬ (42 ≤ b ∧ b ≤ 46)) → W p l e (rmk 1) s m args below meth c H [] 0 0 Q (F0 m 30 ls []) := by
        intro j30
        have J42 : (¬ (59 ≤ b ∧ b ≤ 66)) → W p l e (rmk 1) s m args below meth c H [] 0 0 Q (F0 m 42 ls []) := by
          intro j42
          have J56 : (¬ (75 ≤ b ∧ b ≤ 79)) → W p l e (rmk 1) s m args below meth c H [] 0 0 Q (F0 m 56 ls []) := by
            intro j56
            have J68 : (¬ (87 ≤ b ∧ b ≤ 90)) → W p l e (rmk 1) s m args below meth c H [] 0 0 Q (F0 m 68 ls []) := by
              intro j68
              refine lv_iload_n C.1 C.2.1 dX12_spanOf_68 rfl (lv_at hl 0 rfl) ?_
              refine lv_bipush (v := zI 92) C.1 C.2.1 dX12_spanOf_69 (by decide) ?_
              refine y_icmp_eq (tgt := 112) C (a := ((b : Nat) : Int)) (b := 92) dX12_spanOf_71 (by decide) (by omega) (fun h71 => ?_) (fun h71 => ?_)
              · refine lv_iconst (v := zI 1) C.1 C.2.1 dX12_spanOf_112 (by decide) ?_
                exact hret _ _ _ _ (zI 1) hS ⟨congrArg (fun x : Int => some (zV x)) (by show (1 : Int) = spM b; unfold spM; rw [if_neg (by omega), if_pos (by omega)]), rfl⟩ rfl dX12_spanOf_113
              · refine lv_iload_n C.1 C.2.1 dX12_spanOf_74 rfl (lv_at hl 0 rfl) ?_
                refine lv_bipush (v := zI 95) C.1 C.2.1 dX12_spanOf_75 (by decide) ?_
                refine y_icmp_eq (tgt := 112) C (a := ((b : Nat) : Int)) (b := 95) dX12_spanOf_77 (by decide) (by omega) (fun h77 => ?_) (fun h77 => ?_)
                · refine lv_iconst (v := zI 1) C.1 C.2.1 dX12_spanOf_112 (by decide) ?_
                  exact hret _ _ _ _ (zI 1) hS ⟨congrArg (fun x : Int => some (zV x)) (by show (1 : Int) = spM b; unfold spM; rw [if_neg (by omega), if_pos (by omega)]), rfl⟩ rfl dX12_spanOf_113
                · have J99 : (¬ (96 ≤ b ∧ b ≤ 119 ∧ b % 4 < 2)) → W p l e (rmk 1) s m args below meth c H [] 0 0 Q (F0 m 99 ls []) := by
                    intro j99
                    have J114 : (¬ (120 ≤ b ∧ b ≤ 131)) → W p l e (rmk 1) s m args below meth c H [] 0 0 Q (F0 m 114 ls []) := by
                      intro j114
                      refine lv_iload_n C.1 C.2.1 dX12_spanOf_114 rfl (lv_at hl 0 rfl) ?_
                      refine lv_sipush (v := zI 133) C.1 C.2.1 dX12_spanOf_115 (by decide) ?_
                      refine y_icmp_eq (tgt := 184) C (a := ((b : Nat) : Int)) (b := 133) dX12_spanOf_118 (by decide) (by omega) (fun h118 => ?_) (fun h118 => ?_)
                      · refine lv_iconst (v := zI 1) C.1 C.2.1 dX12_spanOf_184 (by decide) ?_
                        exact hret _ _ _ _ (zI 1) hS ⟨congrArg (fun x : Int => some (zV x)) (by show (1 : Int) = spM b; unfold spM; rw [if_neg (by omega), if_neg (by omega), if_pos (by omega)]), rfl⟩ rfl dX12_spanOf_185
                      · refine lv_iload_n C.1 C.2.1 dX12_spanOf_121 rfl (lv_at hl 0 rfl) ?_
                        refine lv_sipush (v := zI 136) C.1 C.2.1 dX12_spanOf_122 (by decide) ?_
                        refine y_icmp_eq (tgt := 184) C (a := ((b : Nat) : Int)) (b := 136) dX12_spanOf_125 (by decide) (by omega) (fun h125 => ?_) (fun h125 => ?_)
                        · refine lv_iconst (v := zI 1) C.1 C.2.1 dX12_spanOf_184 (by decide) ?_
                          exact hret _ _ _ _ (zI 1) hS ⟨congrArg (fun x : Int => some (zV x)) (by show (1 : Int) = spM b; unfold spM; rw [if_neg (by omega), if_neg (by omega), if_pos (by omega)]), rfl⟩ rfl dX12_spanOf_185
                        · have J142 : (¬ (145 ≤ b ∧ b ≤ 148)) → W p l e (rmk 1) s m args below meth c H [] 0 0 Q (F0 m 142 ls []) := by
                            intro j142
                            refine lv_iload_n C.1 C.2.1 dX12_spanOf_142 rfl (lv_at hl 0 rfl) ?_
                            refine lv_sipush (v := zI 172) C.1 C.2.1 dX12_spanOf_143 (by decide) ?_
                            refine y_icmp_eq (tgt := 184) C (a := ((b : Nat) : Int)) (b := 172) dX12_spanOf_146 (by decide) (by omega) (fun h146 => ?_) (fun h146 => ?_)
                            · refine lv_iconst (v := zI 1) C.1 C.2.1 dX12_spanOf_184 (by decide) ?_
                              exact hret _ _ _ _ (zI 1) hS ⟨congrArg (fun x : Int => some (zV x)) (by show (1 : Int) = spM b; unfold spM; rw [if_neg (by omega), if_neg (by omega), if_pos (by omega)]), rfl⟩ rfl dX12_spanOf_185
                            · refine lv_iload_n C.1 C.2.1 dX12_spanOf_149 rfl (lv_at hl 0 rfl) ?_
                              refine lv_sipush (v := zI 173) C.1 C.2.1 dX12_spanOf_150 (by decide) ?_
                              refine y_icmp_eq (tgt := 184) C (a := ((b : Nat) : Int)) (b := 173) dX12_spanOf_153 (by decide) (by omega) (fun h153 => ?_) (fun h153 => ?_)
                              · refine lv_iconst (v := zI 1) C.1 C.2.1 dX12_spanOf_184 (by decide) ?_
                                exact hret _ _ _ _ (zI 1) hS ⟨congrArg (fun x : Int => some (zV x)) (by show (1 : Int) = spM b; unfold spM; rw [if_neg (by omega), if_neg (by omega), if_pos (by omega)]), rfl⟩ rfl dX12_spanOf_185
                              · refine lv_iload_n C.1 C.2.1 dX12_spanOf_156 rfl (lv_at hl 0 rfl) ?_
                                refine lv_sipush (v := zI 176) C.1 C.2.1 dX12_spanOf_157 (by decide) ?_
                                refine y_icmp_eq (tgt := 184) C (a := ((b : Nat) : Int)) (b := 176) dX12_spanOf_160 (by decide) (by omega) (fun h160 => ?_) (fun h160 => ?_)
                                · refine lv_iconst (v := zI 1) C.1 C.2.1 dX12_spanOf_184 (by decide) ?_
                                  exact hret _ _ _ _ (zI 1) hS ⟨congrArg (fun x : Int => some (zV x)) (by show (1 : Int) = spM b; unfold spM; rw [if_neg (by omega), if_neg (by omega), if_pos (by omega)]), rfl⟩ rfl dX12_spanOf_185
                                · refine lv_iload_n C.1 C.2.1 dX12_spanOf_163 rfl (lv_at hl 0 rfl) ?_
                                  refine lv_sipush (v := zI 177) C.1 C.2.1 dX12_spanOf_164 (by decide) ?_
                                  refine y_icmp_eq (tgt := 184) C (a := ((b : Nat) : Int)) (b := 177) dX12_spanOf_167 (by decide) (by omega) (fun h167 => ?_) (fun h167 => ?_)
                                  · refine lv_iconst (v := zI 1) C.1 C.2.1 dX12_spanOf_184 (by decide) ?_
                                    exact hret _ _ _ _ (zI 1) hS ⟨congrArg (fun x : Int => some (zV x)) (by show (1 : Int) = spM b; unfold spM; rw [if_neg (by omega), if_neg (by omega), if_pos (by omega)]), rfl⟩ rfl dX12_spanOf_185
                                  · refine lv_iload_n C.1 C.2.1 dX12_spanOf_170 rfl (lv_at hl 0 rfl) ?_
                                    refine lv_sipush (v := zI 190) C.1 C.2.1 dX12_spanOf_171 (by decide) ?_
                                    refine y_icmp_eq (tgt := 184) C (a := ((b : Nat) : Int)) (b := 190) dX12_spanOf_174 (by decide) (by omega) (fun h174 => ?_) (fun h174 => ?_)
                                    · refine lv_iconst (v := zI 1) C.1 C.2.1 dX12_spanOf_184 (by decide) ?_
                                      exact hret _ _ _ _ (zI 1) hS ⟨congrArg (fun x : Int => some (zV x)) (by show (1 : Int) = spM b; unfold spM; rw [if_neg (by omega), if_neg (by omega), if_pos (by omega)]), rfl⟩ rfl dX12_spanOf_185
                                    · refine lv_iload_n C.1 C.2.1 dX12_spanOf_177 rfl (lv_at hl 0 rfl) ?_
                                      refine lv_sipush (v := zI 191) C.1 C.2.1 dX12_spanOf_178 (by decide) ?_
                                      refine y_icmp_ne (tgt := 186) C (a := ((b : Nat) : Int)) (b := 191) dX12_spanOf_181 (by decide) (by omega) (fun h181 => ?_) (fun h181 => ?_)
                                      · refine lv_iload_n C.1 C.2.1 dX12_spanOf_186 rfl (lv_at hl 0 rfl) ?_
                                        refine lv_bipush (v := zI 16) C.1 C.2.1 dX12_spanOf_187 (by decide) ?_
                                        refine y_icmp_eq (tgt := 241) C (a := ((b : Nat) : Int)) (b := 16) dX12_spanOf_189 (by decide) (by omega) (fun h189 => ?_) (fun h189 => ?_)
                                        · refine lv_iconst (v := zI 2) C.1 C.2.1 dX12_spanOf_241 (by decide) ?_
                                          exact hret _ _ _ _ (zI 2) hS ⟨congrArg (fun x : Int => some (zV x)) (by show (2 : Int) = spM b; unfold spM; rw [if_neg (by omega), if_neg (by omega), if_neg (by omega), if_pos (by omega)]), rfl⟩ rfl dX12_spanOf_242
                                        · refine lv_iload_n C.1 C.2.1 dX12_spanOf_192 rfl (lv_at hl 0 rfl) ?_
                                          refine lv_bipush (v := zI 18) C.1 C.2.1 dX12_spanOf_193 (by decide) ?_
                                          refine y_icmp_eq (tgt := 241) C (a := ((b : Nat) : Int)) (b := 18) dX12_spanOf_195 (by decide) (by omega) (fun h195 => ?_) (fun h195 => ?_)
                                          · refine lv_iconst (v := zI 2) C.1 C.2.1 dX12_spanOf_241 (by decide) ?_
                                            exact hret _ _ _ _ (zI 2) hS ⟨congrArg (fun x : Int => some (zV x)) (by show (2 : Int) = spM b; unfold spM; rw [if_neg (by omega), if_neg (by omega), if_neg (by omega), if_pos (by omega)]), rfl⟩ rfl dX12_spanOf_242
                                          · refine lv_iload_n C.1 C.2.1 dX12_spanOf_198 rfl (lv_at hl 0 rfl) ?_
                                            refine lv_bipush (v := zI 21) C.1 C.2.1 dX12_spanOf_199 (by decide) ?_
                                            refine y_icmp_eq (tgt := 241) C (a := ((b : Nat) : Int)) (b := 21) dX12_spanOf_201 (by decide) (by omega) (fun h201 => ?_) (fun h201 => ?_)
                                            · refine lv_iconst (v := zI 2) C.1 C.2.1 dX12_spanOf_241 (by decide) ?_
                                              exact hret _ _ _ _ (zI 2) hS ⟨congrArg (fun x : Int => some (zV x)) (by show (2 : Int) = spM b; unfold spM; rw [if_neg (by omega), if_neg (by omega), if_neg (by omega), if_pos (by omega)]), rfl⟩ rfl dX12_spanOf_242
                                            · refine lv_iload_n C.1 C.2.1 dX12_spanOf_204 rfl (lv_at hl 0 rfl) ?_
                                              refine lv_bipush (v := zI 22) C.1 C.2.1 dX12_spanOf_205 (by decide) ?_
                                              refine y_icmp_eq (tgt := 241) C (a := ((b : Nat) : Int)) (b := 22) dX12_spanOf_207 (by decide) (by omega) (fun h207 => ?_) (fun h207 => ?_)
                                              · refine lv_iconst (v := zI 2) C.1 C.2.1 dX12_spanOf_241 (by decide) ?_
                                                exact hret _ _ _ _ (zI 2) hS ⟨congrArg (fun x : Int => some (zV x)) (by show (2 : Int) = spM b; unfold spM; rw [if_neg (by omega), if_neg (by omega), if_neg (by omega), if_pos (by omega)]), rfl⟩ rfl dX12_spanOf_242
                                              · refine lv_iload_n C.1 C.2.1 dX12_spanOf_210 rfl (lv_at hl 0 rfl) ?_
                                                refine lv_bipush (v := zI 25) C.1 C.2.1 dX12_spanOf_211 (by decide) ?_
                                                refine y_icmp_eq (tgt := 241) C (a := ((b : Nat) : Int)) (b := 25) dX12_spanOf_213 (by decide) (by omega) (fun h213 => ?_) (fun h213 => ?_)
                                                · refine lv_iconst (v := zI 2) C.1 C.2.1 dX12_spanOf_241 (by decide) ?_
                                                  exact hret _ _ _ _ (zI 2) hS ⟨congrArg (fun x : Int => some (zV x)) (by show (2 : Int) = spM b; unfold spM; rw [if_neg (by omega), if_neg (by omega), if_neg (by omega), if_pos (by omega)]), rfl⟩ rfl dX12_spanOf_242
                                                · refine lv_iload_n C.1 C.2.1 dX12_spanOf_216 rfl (lv_at hl 0 rfl) ?_
                                                  refine lv_bipush (v := zI 54) C.1 C.2.1 dX12_spanOf_217 (by decide) ?_
                                                  refine y_icmp_eq (tgt := 241) C (a := ((b : Nat) : Int)) (b := 54) dX12_spanOf_219 (by decide) (by omega) (fun h219 => ?_) (fun h219 => ?_)
                                                  · refine lv_iconst (v := zI 2) C.1 C.2.1 dX12_spanOf_241 (by decide) ?_
                                                    exact hret _ _ _ _ (zI 2) hS ⟨congrArg (fun x : Int => some (zV x)) (by show (2 : Int) = spM b; unfold spM; rw [if_neg (by omega), if_neg (by omega), if_neg (by omega), if_pos (by omega)]), rfl⟩ rfl dX12_spanOf_242
                                                  · refine lv_iload_n C.1 C.2.1 dX12_spanOf_222 rfl (lv_at hl 0 rfl) ?_
                                                    refine lv_bipush (v := zI 55) C.1 C.2.1 dX12_spanOf_223 (by decide) ?_
                                                    refine y_icmp_eq (tgt := 241) C (a := ((b : Nat) : Int)) (b := 55) dX12_spanOf_225 (by decide) (by omega) (fun h225 => ?_) (fun h225 => ?_)
                                                    · refine lv_iconst (v := zI 2) C.1 C.2.1 dX12_spanOf_241 (by decide) ?_
                                                      exact hret _ _ _ _ (zI 2) hS ⟨congrArg (fun x : Int => some (zV x)) (by show (2 : Int) = spM b; unfold spM; rw [if_neg (by omega), if_neg (by omega), if_neg (by omega), if_pos (by omega)]), rfl⟩ rfl dX12_spanOf_242
                                                    · refine lv_iload_n C.1 C.2.1 dX12_spanOf_228 rfl (lv_at hl 0 rfl) ?_
                                                      refine lv_bipush (v := zI 58) C.1 C.2.1 dX12_spanOf_229 (by decide) ?_
                                                      refine y_icmp_eq (tgt := 241) C (a := ((b : Nat) : Int)) (b := 58) dX12_spanOf_231 (by decide) (by omega) (fun h231 => ?_) (fun h231 => ?_)
                                                      · refine lv_iconst (v := zI 2) C.1 C.2.1 dX12_spanOf_241 (by decide) ?_
                                                        exact hret _ _ _ _ (zI 2) hS ⟨congrArg (fun x : Int => some (zV x)) (by show (2 : Int) = spM b; unfold spM; rw [if_neg (by omega), if_neg (by omega), if_neg (by omega), if_pos (by omega)]), rfl⟩ rfl dX12_spanOf_242
                                                      · refine lv_iload_n C.1 C.2.1 dX12_spanOf_234 rfl (lv_at hl 0 rfl) ?_
                                                        refine lv_sipush (v := zI 188) C.1 C.2.1 dX12_spanOf_235 (by decide) ?_
                                                        refine y_icmp_ne (tgt := 243) C (a := ((b : Nat) : Int)) (b := 188) dX12_spanOf_238 (by decide) (by omega) (fun h238 => ?_) (fun h238 => ?_)
                                                        · refine lv_iload_n C.1 C.2.1 dX12_spanOf_243 rfl (lv_at hl 0 rfl) ?_
                                                          refine lv_bipush (v := zI 17) C.1 C.2.1 dX12_spanOf_244 (by decide) ?_
                                                          refine y_icmp_eq (tgt := 317) C (a := ((b : Nat) : Int)) (b := 17) dX12_spanOf_246 (by decide) (by omega) (fun h246 => ?_) (fun h246 => ?_)
                                                          · refine lv_iconst (v := zI 3) C.1 C.2.1 dX12_spanOf_317 (by decide) ?_
                                                            exact hret _ _ _ _ (zI 3) hS ⟨congrArg (fun x : Int => some (zV x)) (by show (3 : Int) = spM b; unfold spM; rw [if_neg (by omega), if_neg (by omega), if_neg (by omega), if_neg (by omega), if_pos (by omega)]), rfl⟩ rfl dX12_spanOf_318
                                                          · refine lv_iload_n C.1 C.2.1 dX12_spanOf_249 rfl (lv_at hl 0 rfl) ?_
                                                            refine lv_bipush (v := zI 19) C.1 C.2.1 dX12_spanOf_250 (by decide) ?_
                                                            refine y_icmp_eq (tgt := 317) C (a := ((b : Nat) : Int)) (b := 19) dX12_spanOf_252 (by decide) (by omega) (fun h252 => ?_) (fun h252 => ?_)
                                                            · refine lv_iconst (v := zI 3) C.1 C.2.1 dX12_spanOf_317 (by decide) ?_
                                                              exact hret _ _ _ _ (zI 3) hS ⟨congrArg (fun x : Int => some (zV x)) (by show (3 : Int) = spM b; unfold spM; rw [if_neg (by omega), if_neg (by omega), if_neg (by omega), if_neg (by omega), if_pos (by omega)]), rfl⟩ rfl dX12_spanOf_318
                                                            · refine lv_iload_n C.1 C.2.1 dX12_spanOf_255 rfl (lv_at hl 0 rfl) ?_
                                                              refine lv_bipush (v := zI 20) C.1 C.2.1 dX12_spanOf_256 (by decide) ?_
                                                              refine y_icmp_eq (tgt := 317) C (a := ((b : Nat) : Int)) (b := 20) dX12_spanOf_258 (by decide) (by omega) (fun h258 => ?_) (fun h258 => ?_)
                                                              · refine lv_iconst (v := zI 3) C.1 C.2.1 dX12_spanOf_317 (by decide) ?_
                                                                exact hret _ _ _ _ (zI 3) hS ⟨congrArg (fun x : Int => some (zV x)) (by show (3 : Int) = spM b; unfold spM; rw [if_neg (by omega), if_neg (by omega), if_neg (by omega), if_neg (by omega), if_pos (by omega)]), rfl⟩ rfl dX12_spanOf_318
                                                              · refine lv_iload_n C.1 C.2.1 dX12_spanOf_261 rfl (lv_at hl 0 rfl) ?_
                                                                refine lv_sipush (v := zI 132) C.1 C.2.1 dX12_spanOf_262 (by decide) ?_
                                                                refine y_icmp_eq (tgt := 317) C (a := ((b : Nat) : Int)) (b := 132) dX12_spanOf_265 (by decide) (by omega) (fun h265 => ?_) (fun h265 => ?_)
                                                                · refine lv_iconst (v := zI 3) C.1 C.2.1 dX12_spanOf_317 (by decide) ?_
                                                                  exact hret _ _ _ _ (zI 3) hS ⟨congrArg (fun x : Int => some (zV x)) (by show (3 : Int) = spM b; unfold spM; rw [if_neg (by omega), if_neg (by omega), if_neg (by omega), if_neg (by omega), if_pos (by omega)]), rfl⟩ rfl dX12_spanOf_318
                                                                · have J282 : (¬ (153 ≤ b ∧ b ≤ 167)) → W p l e (rmk 1) s m args below meth c H [] 0 0 Q (F0 m 282 ls []) := by
                                                                    intro j282
                                                                    refine lv_iload_n C.1 C.2.1 dX12_spanOf_282 rfl (lv_at hl 0 rfl) ?_
                                                                    refine lv_sipush (v := zI 178) C.1 C.2.1 dX12_spanOf_283 (by decide) ?_
                                                                    refine y_icmp_eq (tgt := 317) C (a := ((b : Nat) : Int)) (b := 178) dX12_spanOf_286 (by decide) (by omega) (fun h286 => ?_) (fun h286 => ?_)
                                                                    · refine lv_iconst (v := zI 3) C.1 C.2.1 dX12_spanOf_317 (by decide) ?_
                                                                      exact hret _ _ _ _ (zI 3) hS ⟨congrArg (fun x : Int => some (zV x)) (by show (3 : Int) = spM b; unfold spM; rw [if_neg (by omega), if_neg (by omega), if_neg (by omega), if_neg (by omega), if_pos (by omega)]), rfl⟩ rfl dX12_spanOf_318
                                                                    · refine lv_iload_n C.1 C.2.1 dX12_spanOf_289 rfl (lv_at hl 0 rfl) ?_
                                                                      refine lv_sipush (v := zI 179) C.1 C.2.1 dX12_spanOf_290 (by decide) ?_
                                                                      refine y_icmp_eq (tgt := 317) C (a := ((b : Nat) : Int)) (b := 179) dX12_spanOf_293 (by decide) (by omega) (fun h293 => ?_) (fun h293 => ?_)
                                                                      · refine lv_iconst (v := zI 3) C.1 C.2.1 dX12_spanOf_317 (by decide) ?_
                                                                        exact hret _ _ _ _ (zI 3) hS ⟨congrArg (fun x : Int => some (zV x)) (by show (3 : Int) = spM b; unfold spM; rw [if_neg (by omega), if_neg (by omega), if_neg (by omega), if_neg (by omega), if_pos (by omega)]), rfl⟩ rfl dX12_spanOf_318
                                                                      · refine lv_iload_n C.1 C.2.1 dX12_spanOf_296 rfl (lv_at hl 0 rfl) ?_
                                                                        refine lv_sipush (v := zI 184) C.1 C.2.1 dX12_spanOf_297 (by decide) ?_
                                                                        refine y_icmp_eq (tgt := 317) C (a := ((b : Nat) : Int)) (b := 184) dX12_spanOf_300 (by decide) (by omega) (fun h300 => ?_) (fun h300 => ?_)
                                                                        · refine lv_iconst (v := zI 3) C.1 C.2.1 dX12_spanOf_317 (by decide) ?_
                                                                          exact hret _ _ _ _ (zI 3) hS ⟨congrArg (fun x : Int => some (zV x)) (by show (3 : Int) = spM b; unfold spM; rw [if_neg (by omega), if_neg (by omega), if_neg (by omega), if_neg (by omega), if_pos (by omega)]), rfl⟩ rfl dX12_spanOf_318
                                                                        · refine lv_iload_n C.1 C.2.1 dX12_spanOf_303 rfl (lv_at hl 0 rfl) ?_
                                                                          refine lv_sipush (v := zI 198) C.1 C.2.1 dX12_spanOf_304 (by decide) ?_
                                                                          refine y_icmp_eq (tgt := 317) C (a := ((b : Nat) : Int)) (b := 198) dX12_spanOf_307 (by decide) (by omega) (fun h307 => ?_) (fun h307 => ?_)
                                                                          · refine lv_iconst (v := zI 3) C.1 C.2.1 dX12_spanOf_317 (by decide) ?_
                                                                            exact hret _ _ _ _ (zI 3) hS ⟨congrArg (fun x : Int => some (zV x)) (by show (3 : Int) = spM b; unfold spM; rw [if_neg (by omega), if_neg (by omega), if_neg (by omega), if_neg (by omega), if_pos (by omega)]), rfl⟩ rfl dX12_spanOf_318
                                                                          · refine lv_iload_n C.1 C.2.1 dX12_spanOf_310 rfl (lv_at hl 0 rfl) ?_
                                                                            refine lv_sipush (v := zI 199) C.1 C.2.1 dX12_spanOf_311 (by decide) ?_
                                                                            refine y_icmp_ne (tgt := 319) C (a := ((b : Nat) : Int)) (b := 199) dX12_spanOf_314 (by decide) (by omega) (fun h314 => ?_) (fun h314 => ?_)
                                                                            · refine lv_iload_n C.1 C.2.1 dX12_spanOf_319 rfl (lv_at hl 0 rfl) ?_
                                                                              refine lv_sipush (v := zI 200) C.1 C.2.1 dX12_spanOf_320 (by decide) ?_
                                                                              refine y_icmp_ne (tgt := 330) C (a := ((b : Nat) : Int)) (b := 200) dX12_spanOf_323 (by decide) (by omega) (fun h323 => ?_) (fun h323 => ?_)
                                                                              · refine lv_iload_n C.1 C.2.1 dX12_spanOf_330 rfl (lv_at hl 0 rfl) ?_
                                                                                refine lv_sipush (v := zI 170) C.1 C.2.1 dX12_spanOf_331 (by decide) ?_
                                                                                refine y_icmp_eq (tgt := 344) C (a := ((b : Nat) : Int)) (b := 170) dX12_spanOf_334 (by decide) (by omega) (fun h334 => ?_) (fun h334 => ?_)
                                                                                · refine lv_iconst (v := zI (-1)) C.1 C.2.1 dX12_spanOf_344 (by decide) ?_
                                                                                  refine lv_goto (tgt := 361) C.1 C.2.1 dX12_spanOf_345 (by decide) ?_
                                                                                  exact hret _ _ _ _ (zI (-1)) hS ⟨congrArg (fun x : Int => some (zV x)) (by show (-1 : Int) = spM b; unfold spM; rw [if_neg (by omega), if_neg (by omega), if_neg (by omega), if_neg (by omega), if_neg (by omega)]; (repeat' split) <;> omega), rfl⟩ rfl dX12_spanOf_361
                                                                                · refine lv_iload_n C.1 C.2.1 dX12_spanOf_337 rfl (lv_at hl 0 rfl) ?_
                                                                                  refine lv_sipush (v := zI 171) C.1 C.2.1 dX12_spanOf_338 (by decide) ?_
                                                                                  refine y_icmp_ne (tgt := 348) C (a := ((b : Nat) : Int)) (b := 171) dX12_spanOf_341 (by decide) (by omega) (fun h341 => ?_) (fun h341 => ?_)
                                                                                  · refine lv_iload_n C.1 C.2.1 dX12_spanOf_348 rfl (lv_at hl 0 rfl) ?_
                                                                                    refine lv_sipush (v := zI 196) C.1 C.2.1 dX12_spanOf_349 (by decide) ?_
                                                                                    refine y_icmp_ne (tgt := 360) C (a := ((b : Nat) : Int)) (b := 196) dX12_spanOf_352 (by decide) (by omega) (fun h352 => ?_) (fun h352 => ?_)
                                                                                    · refine lv_iconst (v := zI 0) C.1 C.2.1 dX12_spanOf_360 (by decide) ?_
                                                                                      exact hret _ _ _ _ (zI 0) hS ⟨congrArg (fun x : Int => some (zV x)) (by show (0 : Int) = spM b; unfold spM; rw [if_neg (by omega), if_neg (by omega), if_neg (by omega), if_neg (by omega), if_neg (by omega)]; (repeat' split) <;> omega), rfl⟩ rfl dX12_spanOf_361
                                                                                    · refine lv_bipush (v := zI (-2)) C.1 C.2.1 dX12_spanOf_355 (by decide) ?_
                                                                                      refine lv_goto (tgt := 361) C.1 C.2.1 dX12_spanOf_357 (by decide) ?_
                                                                                      exact hret _ _ _ _ (zI (-2)) hS ⟨congrArg (fun x : Int => some (zV x)) (by show (-2 : Int) = spM b; unfold spM; rw [if_neg (by omega), if_neg (by omega), if_neg (by omega), if_neg (by omega), if_neg (by omega)]; (repeat' split) <;> omega), rfl⟩ rfl dX12_spanOf_361
                                                                                  · refine lv_iconst (v := zI (-1)) C.1 C.2.1 dX12_spanOf_344 (by decide) ?_
                                                                                    refine lv_goto (tgt := 361) C.1 C.2.1 dX12_spanOf_345 (by decide) ?_
                                                                                    exact hret _ _ _ _ (zI (-1)) hS ⟨congrArg (fun x : Int => some (zV x)) (by show (-1 : Int) = spM b; unfold spM; rw [if_neg (by omega), if_neg (by omega), if_neg (by omega), if_neg (by omega), if_neg (by omega)]; (repeat' split) <;> omega), rfl⟩ rfl dX12_spanOf_361
                                                                              · refine lv_iconst (v := zI 5) C.1 C.2.1 dX12_spanOf_326 (by decide) ?_
                                                                                refine lv_goto (tgt := 361) C.1 C.2.1 dX12_spanOf_327 (by decide) ?_
                                                                                exact hret _ _ _ _ (zI 5) hS ⟨congrArg (fun x : Int => some (zV x)) (by show (5 : Int) = spM b; unfold spM; rw [if_neg (by omega), if_neg (by omega), if_neg (by omega), if_neg (by omega), if_neg (by omega)]; (repeat' split) <;> omega), rfl⟩ rfl dX12_spanOf_361
                                                                            · refine lv_iconst (v := zI 3) C.1 C.2.1 dX12_spanOf_317 (by decide) ?_
                                                                              exact hret _ _ _ _ (zI 3) hS ⟨congrArg (fun x : Int => some (zV x)) (by show (3 : Int) = spM b; unfold spM; rw [if_neg (by omega), if_neg (by omega), if_neg (by omega), if_neg (by omega), if_pos (by omega)]), rfl⟩ rfl dX12_spanOf_318
                                                                  refine lv_iload_n C.1 C.2.1 dX12_spanOf_268 rfl (lv_at hl 0 rfl) ?_
                                                                  refine lv_sipush (v := zI 153) C.1 C.2.1 dX12_spanOf_269 (by decide) ?_
                                                                  refine y_icmp_lt (tgt := 282) C (a := ((b : Nat) : Int)) (b := 153) dX12_spanOf_272 (by decide) (by omega) (fun h272 => ?_) (fun h272 => ?_)
                                                                  · exact J282 (by omega)
                                                                  · refine lv_iload_n C.1 C.2.1 dX12_spanOf_275 rfl (lv_at hl 0 rfl) ?_
                                                                    refine lv_sipush (v := zI 167) C.1 C.2.1 dX12_spanOf_276 (by decide) ?_
                                                                    refine y_icmp_le (tgt := 317) C (a := ((b : Nat) : Int)) (b := 167) dX12_spanOf_279 (by decide) (by omega) (fun h279 => ?_) (fun h279 => ?_)
                                                                    · refine lv_iconst (v := zI 3) C.1 C.2.1 dX12_spanOf_317 (by decide) ?_
                                                                      exact hret _ _ _ _ (zI 3) hS ⟨congrArg (fun x : Int => some (zV x)) (by show (3 : Int) = spM b; unfold spM; rw [if_neg (by omega), if_neg (by omega), if_neg (by omega), if_neg (by omega), if_pos (by omega)]), rfl⟩ rfl dX12_spanOf_318
                                                                    · exact J282 (by omega)
                                                        · refine lv_iconst (v := zI 2) C.1 C.2.1 dX12_spanOf_241 (by decide) ?_
                                                          exact hret _ _ _ _ (zI 2) hS ⟨congrArg (fun x : Int => some (zV x)) (by show (2 : Int) = spM b; unfold spM; rw [if_neg (by omega), if_neg (by omega), if_neg (by omega), if_pos (by omega)]), rfl⟩ rfl dX12_spanOf_242
                                      · refine lv_iconst (v := zI 1) C.1 C.2.1 dX12_spanOf_184 (by decide) ?_
                                        exact hret _ _ _ _ (zI 1) hS ⟨congrArg (fun x : Int => some (zV x)) (by show (1 : Int) = spM b; unfold spM; rw [if_neg (by omega), if_neg (by omega), if_pos (by omega)]), rfl⟩ rfl dX12_spanOf_185
                          refine lv_iload_n C.1 C.2.1 dX12_spanOf_128 rfl (lv_at hl 0 rfl) ?_
                          refine lv_sipush (v := zI 145) C.1 C.2.1 dX12_spanOf_129 (by decide) ?_
                          refine y_icmp_lt (tgt := 142) C (a := ((b : Nat) : Int)) (b := 145) dX12_spanOf_132 (by decide) (by omega) (fun h132 => ?_) (fun h132 => ?_)
                          · exact J142 (by omega)
                          · refine lv_iload_n C.1 C.2.1 dX12_spanOf_135 rfl (lv_at hl 0 rfl) ?_
                            refine lv_sipush (v := zI 148) C.1 C.2.1 dX12_spanOf_136 (by decide) ?_
                            refine y_icmp_le (tgt := 184) C (a := ((b : Nat) : Int)) (b := 148) dX12_spanOf_139 (by decide) (by omega) (fun h139 => ?_) (fun h139 => ?_)
                            · refine lv_iconst (v := zI 1) C.1 C.2.1 dX12_spanOf_184 (by decide) ?_
                              exact hret _ _ _ _ (zI 1) hS ⟨congrArg (fun x : Int => some (zV x)) (by show (1 : Int) = spM b; unfold spM; rw [if_neg (by omega), if_neg (by omega), if_pos (by omega)]), rfl⟩ rfl dX12_spanOf_185
                            · exact J142 (by omega)
                    refine lv_iload_n C.1 C.2.1 dX12_spanOf_99 rfl (lv_at hl 0 rfl) ?_
                    refine lv_bipush (v := zI 120) C.1 C.2.1 dX12_spanOf_100 (by decide) ?_
                    refine y_icmp_lt (tgt := 114) C (a := ((b : Nat) : Int)) (b := 120) dX12_spanOf_102 (by decide) (by omega) (fun h102 => ?_) (fun h102 => ?_)
                    · exact J114 (by omega)
                    · refine lv_iload_n C.1 C.2.1 dX12_spanOf_105 rfl (lv_at hl 0 rfl) ?_
                      refine lv_sipush (v := zI 131) C.1 C.2.1 dX12_spanOf_106 (by decide) ?_
                      refine y_icmp_gt (tgt := 114) C (a := ((b : Nat) : Int)) (b := 131) dX12_spanOf_109 (by decide) (by omega) (fun h109 => ?_) (fun h109 => ?_)
                      · exact J114 (by omega)
                      · refine lv_iconst (v := zI 1) C.1 C.2.1 dX12_spanOf_112 (by decide) ?_
                        exact hret _ _ _ _ (zI 1) hS ⟨congrArg (fun x : Int => some (zV x)) (by show (1 : Int) = spM b; unfold spM; rw [if_neg (by omega), if_pos (by omega)]), rfl⟩ rfl dX12_spanOf_113
                  refine lv_iload_n C.1 C.2.1 dX12_spanOf_80 rfl (lv_at hl 0 rfl) ?_
                  refine lv_bipush (v := zI 96) C.1 C.2.1 dX12_spanOf_81 (by decide) ?_
                  refine y_icmp_lt (tgt := 99) C (a := ((b : Nat) : Int)) (b := 96) dX12_spanOf_83 (by decide) (by omega) (fun h83 => ?_) (fun h83 => ?_)
                  · exact J99 (by omega)
                  · refine lv_iload_n C.1 C.2.1 dX12_spanOf_86 rfl (lv_at hl 0 rfl) ?_
                    refine lv_bipush (v := zI 119) C.1 C.2.1 dX12_spanOf_87 (by decide) ?_
                    refine y_icmp_gt (tgt := 99) C (a := ((b : Nat) : Int)) (b := 119) dX12_spanOf_89 (by decide) (by omega) (fun h89 => ?_) (fun h89 => ?_)
                    · exact J99 (by omega)
                    · refine lv_iload_n C.1 C.2.1 dX12_spanOf_92 rfl (lv_at hl 0 rfl) ?_
                      refine lv_iconst (v := zI 4) C.1 C.2.1 dX12_spanOf_93 (by decide) ?_
                      refine lv_irem C.1 C.2.1 dX12_spanOf_94 (by decide) ?_
                      refine z_re (y := zI ((b % 4 : Nat) : Int)) (irem4 (by omega)) ?_
                      refine lv_iconst (v := zI 2) C.1 C.2.1 dX12_spanOf_95 (by decide) ?_
                      refine y_icmp_lt (tgt := 112) C (a := ((b % 4 : Nat) : Int)) (b := 2) dX12_spanOf_96 (by decide) (by omega) (fun h96 => ?_) (fun h96 => ?_)
                      · refine lv_iconst (v := zI 1) C.1 C.2.1 dX12_spanOf_112 (by decide) ?_
                        exact hret _ _ _ _ (zI 1) hS ⟨congrArg (fun x : Int => some (zV x)) (by show (1 : Int) = spM b; unfold spM; rw [if_neg (by omega), if_pos (by omega)]), rfl⟩ rfl dX12_spanOf_113
                      · exact J99 (by omega)
            refine lv_iload_n C.1 C.2.1 dX12_spanOf_56 rfl (lv_at hl 0 rfl) ?_
            refine lv_bipush (v := zI 87) C.1 C.2.1 dX12_spanOf_57 (by decide) ?_
            refine y_icmp_lt (tgt := 68) C (a := ((b : Nat) : Int)) (b := 87) dX12_spanOf_59 (by decide) (by omega) (fun h59 => ?_) (fun h59 => ?_)
            · exact J68 (by omega)
            · refine lv_iload_n C.1 C.2.1 dX12_spanOf_62 rfl (lv_at hl 0 rfl) ?_
              refine lv_bipush (v := zI 90) C.1 C.2.1 dX12_spanOf_63 (by decide) ?_
              refine y_icmp_le (tgt := 112) C (a := ((b : Nat) : Int)) (b := 90) dX12_spanOf_65 (by decide) (by omega) (fun h65 => ?_) (fun h65 => ?_)
              · refine lv_iconst (v := zI 1) C.1 C.2.1 dX12_spanOf_112 (by decide) ?_
                exact hret _ _ _ _ (zI 1) hS ⟨congrArg (fun x : Int => some (zV x)) (by show (1 : Int) = spM b; unfold spM; rw [if_neg (by omega), if_pos (by omega)]), rfl⟩ rfl dX12_spanOf_113
              · exact J68 (by omega)
          refine lv_iload_n C.1 C.2.1 dX12_spanOf_42 rfl (lv_at hl 0 rfl) ?_
          refine lv_bipush (v := zI 75) C.1 C.2.1 dX12_spanOf_43 (by decide) ?_
          refine y_icmp_lt (tgt := 56) C (a := ((b : Nat) : Int)) (b := 75) dX12_spanOf_45 (by decide) (by omega) (fun h45 => ?_) (fun h45 => ?_)
          · exact J56 (by omega)
          · refine lv_iload_n C.1 C.2.1 dX12_spanOf_48 rfl (lv_at hl 0 rfl) ?_
            refine lv_bipush (v := zI 79) C.1 C.2.1 dX12_spanOf_49 (by decide) ?_
            refine y_icmp_gt (tgt := 56) C (a := ((b : Nat) : Int)) (b := 79) dX12_spanOf_51 (by decide) (by omega) (fun h51 => ?_) (fun h51 => ?_)
            · exact J56 (by omega)
            · refine lv_iconst (v := zI 1) C.1 C.2.1 dX12_spanOf_54 (by decide) ?_
              exact hret _ _ _ _ (zI 1) hS ⟨congrArg (fun x : Int => some (zV x)) (by show (1 : Int) = spM b; unfold spM; rw [if_pos (by omega)]), rfl⟩ rfl dX12_spanOf_55
        refine lv_iload_n C.1 C.2.1 dX12_spanOf_30 rfl (lv_at hl 0 rfl) ?_
        refine lv_bipush (v := zI 59) C.1 C.2.1 dX12_spanOf_31 (by decide) ?_
        refine y_icmp_lt (tgt := 42) C (a := ((b : Nat) : Int)) (b := 59) dX12_spanOf_33 (by decide) (by omega) (fun h33 => ?_) (fun h33 => ?_)
        · exact J42 (by omega)
        · refine lv_iload_n C.1 C.2.1 dX12_spanOf_36 rfl (lv_at hl 0 rfl) ?_
          refine lv_bipush (v := zI 66) C.1 C.2.1 dX12_spanOf_37 (by decide) ?_
          refine y_icmp_le (tgt := 54) C (a := ((b : Nat) : Int)) (b := 66) dX12_spanOf_39 (by decide) (by omega) (fun h39 => ?_) (fun h39 => ?_)
          · refine lv_iconst (v := zI 1) C.1 C.2.1 dX12_spanOf_54 (by decide) ?_
            exact hret _ _ _ _ (zI 1) hS ⟨congrArg (fun x : Int => some (zV x)) (by show (1 : Int) = spM b; unfold spM; rw [if_pos (by omega)]), rfl⟩ rfl dX12_spanOf_55
          · exact J42 (by omega)
      refine lv_iload_n C.1 C.2.1 dX12_spanOf_18 rfl (lv_at hl 0 rfl) ?_
      refine lv_bipush (v := zI 42) C.1 C.2.1 dX12_spanOf_19 (by decide) ?_
      refine y_icmp_lt (tgt := 30) C (a := ((b : Nat) : Int)) (b := 42) dX12_spanOf_21 (by decide) (by omega) (fun h21 => ?_) (fun h21 => ?_)
      · exact J30 (by omega)
      · refine lv_iload_n C.1 C.2.1 dX12_spanOf_24 rfl (lv_at hl 0 rfl) ?_
        refine lv_bipush (v := zI 46) C.1 C.2.1 dX12_spanOf_25 (by decide) ?_
        refine y_icmp_le (tgt := 54) C (a := ((b : Nat) : Int)) (b := 46) dX12_spanOf_27 (by decide) (by omega) (fun h27 => ?_) (fun h27 => ?_)
        · refine lv_iconst (v := zI 1) C.1 C.2.1 dX12_spanOf_54 (by decide) ?_
          exact hret _ _ _ _ (zI 1) hS ⟨congrArg (fun x : Int => some (zV x)) (by show (1 : Int) = spM b; unfold spM; rw [if_pos (by omega)]), rfl⟩ rfl dX12_spanOf_55
        · exact J30 (by omega)
    refine lv_iload_n C.1 C.2.1 dX12_spanOf_6 rfl (lv_at hl 0 rfl) ?_
    refine lv_bipush (v := zI 26) C.1 C.2.1 dX12_spanOf_7 (by decide) ?_
    refine y_icmp_lt (tgt := 18) C (a := ((b : Nat) : Int)) (b := 26) dX12_spanOf_9 (by decide) (by omega) (fun h9 => ?_) (fun h9 => ?_)
    · exact J18 (by omega)
    · refine lv_iload_n C.1 C.2.1 dX12_spanOf_12 rfl (lv_at hl 0 rfl) ?_
      refine lv_bipush (v := zI 33) C.1 C.2.1 dX12_spanOf_13 (by decide) ?_
      refine y_icmp_le (tgt := 54) C (a := ((b : Nat) : Int)) (b := 33) dX12_spanOf_15 (by decide) (by omega) (fun h15 => ?_) (fun h15 => ?_)
      · refine lv_iconst (v := zI 1) C.1 C.2.1 dX12_spanOf_54 (by decide) ?_
        exact hret _ _ _ _ (zI 1) hS ⟨congrArg (fun x : Int => some (zV x)) (by show (1 : Int) = spM b; unfold spM; rw [if_pos (by omega)]), rfl⟩ rfl dX12_spanOf_55
      · exact J18 (by omega)
