/-! the model: the lengths of instructions -/
theorem irem4 {b : Nat} (h : b < 2147483648) : zI (b : Int) - zI (b : Int) / zI 4 * zI 4 = zI ((b % 4 : Nat) : Int) := by
  have e : zI (b : Int) / zI 4 = zI ((b / 4 : Nat) : Int) := by
    refine Int32.toInt_inj.1 ?_
    rw [Int32.toInt_div, zI_toInt (by omega), zI_toInt (by omega), zI_toInt (by omega), Int.tdiv_eq_ediv_of_nonneg (by omega)]
    simp only [Int.bmod_def]
    split <;> omega
  rw [e]
  show Int32.ofInt _ - Int32.ofInt _ * Int32.ofInt _ = _
  rw [← Int32.ofInt_mul, ← Int32.ofInt_sub]
  exact zI_c (by omega)
def spM (b : Nat) : Int :=
  if b ≤ 10 ∨ (26 ≤ b ∧ b ≤ 33) ∨ (42 ≤ b ∧ b ≤ 46) ∨ (59 ≤ b ∧ b ≤ 66) ∨ (75 ≤ b ∧ b ≤ 79) then 1 else
  if (87 ≤ b ∧ b ≤ 90) ∨ b = 92 ∨ b = 95 ∨ (96 ≤ b ∧ b ≤ 119 ∧ b % 4 < 2) ∨ (120 ≤ b ∧ b ≤ 131) then 1 else
  if b = 133 ∨ b = 136 ∨ (145 ≤ b ∧ b ≤ 148) ∨ b = 172 ∨ b = 173 ∨ b = 176 ∨ b = 177 ∨ b = 190 ∨ b = 191 then 1 else
  if b = 16 ∨ b = 18 ∨ b = 21 ∨ b = 22 ∨ b = 25 ∨ b = 54 ∨ b = 55 ∨ b = 58 ∨ b = 188 then 2 else
  if b = 17 ∨ b = 19 ∨ b = 20 ∨ b = 132 ∨ (153 ≤ b ∧ b ≤ 167) ∨ b = 178 ∨ b = 179 ∨ b = 184 ∨ b = 198 ∨ b = 199 then 3 else
  if b = 200 then 5 else if b = 170 ∨ b = 171 then -1 else if b = 196 then -2 else 0
theorem spM_1 {b : Nat} (h : b ≤ 10 ∨ (26 ≤ b ∧ b ≤ 33) ∨ (42 ≤ b ∧ b ≤ 46) ∨ (59 ≤ b ∧ b ≤ 66) ∨ (75 ≤ b ∧ b ≤ 79)) : spM b = 1 := if_pos h
theorem spM_rg (b : Nat) : -2 ≤ spM b ∧ spM b ≤ 5 := by
  unfold spM
  (repeat' split) <;> decide

set_option maxHeartbeats 4000000 in
set_option maxRecDepth 20000 in
theorem c_X12_spanOf (l : Launch) (Z : zT) {H : Heap} {t : Int} (b : Nat) (ht : t = (b : Int)) (hb : b < 256) : zP l Z yX12_spanOf cX12_spanOf 1 (some .int) (rmk 1) [zV t] H (zV (spM b)) := by
  subst ht
  refine zM.introI (own := RX12) ⟨by decide, rfl⟩ (Nat.le_of_ble_eq_true rfl) ?_
  intro p e s m args below meth c Q ls hH C hl hret
  have hS : va_S (fun _ => False) s.heap H [] := by rw [hH]; exact va_S.rf
  have hl : lv_has ls 1 [(0, zN b)] := hl
  refine lv_iload_n C.1 C.2.1 dX12_spanOf_0 rfl (lv_at hl 0 rfl) ?_
  refine lv_bipush (v := zI 10) C.1 C.2.1 dX12_spanOf_1 (by decide) ?_
  refine y_icmp_le (tgt := 54) C (a := ((b : Nat) : Int)) (b := 10) dX12_spanOf_3 (by decide) (by omega) (fun h3 => ?_) (fun h3 => ?_)
  · refine lv_iconst (v := zI 1) C.1 C.2.1 dX12_spanOf_54 (by decide) ?_
    exact hret _ _ _ _ (zI 1) hS ⟨congrArg (fun x : Int => some (zV x)) (by show (1 : Int) = spM b; unfold spM; rw [if_pos (by omega)]), rfl⟩ rfl dX12_spanOf_55
  · have J18 : (¬ (26 ≤ b ∧ b ≤ 33)) → W p l e (rmk 1) s m args below meth c H [] 0 0 Q (F0 m 18 ls []) := by
      intro j18
      have J30 : (¬ (42 ≤ b ∧ b ≤ 46)) → W p l e (rmk 1) s m args below meth c H [] 0 0 Q (F0 m 30 ls []) := by
        intro j30
        have J42 : (¬ (59 ≤ b ∧ b ≤ 66)) → W p l e (rmk 1) s m args below meth c H [] 0 0 Q (F0 m 42 ls []) := by
          intro j42
          have J56 : (¬ (75 ≤ b ∧ b ≤ 79)) → W p l e (rmk 1) s m args below meth c H [] 0 0 Q (F0 m 56 ls []) := by
            intro j56
            have J68 : (¬ (87 ≤ b ∧ b ≤ 90)) → W p l e (rmk 1) s m args below meth c H [] 0 0 Q (F0 m 68 ls []) := by
              intro j68
              refine lv_iload_n C.1 C.2.1 dX12_spanOf_68 rfl (lv_at hl 0 rfl) ?_
              refine lv_bipush (v := zI 92) C.1 C.2.1 dX12_spanOf_69 (by decide) ?_
              refine y_icmp_eq (tgt := 112) C (a := ((b : Nat) : Int)) (b := 92) dX12_spanOf_71 (by decide) (by omega) (fun h71 => ?_) (fun h71 => ?_)
              · refine lv_iconst (v := zI 1) C.1 C.2.1 dX12_spanOf_112 (by decide) ?_
                exact hret _ _ _ _ (zI 1) hS ⟨congrArg (fun x : Int => some (zV x)) (by show (1 : Int) = spM b; unfold spM; rw [if_neg (by omega), if_pos (by omega)]), rfl⟩ rfl dX12_spanOf_113
              · refine lv_iload_n C.1 C.2.1 dX12_spanOf_74 rfl (lv_at hl 0 rfl) ?_
                refine lv_bipush (v := zI 95) C.1 C.2.1 dX12_spanOf_75 (by decide) ?_
                refine y_icmp_eq (tgt := 112) C (a := ((b : Nat) : Int)) (b := 95) dX12_spanOf_77 (by decide) (by omega) (fun h77 => ?_) (fun h77 => ?_)
                · refine lv_iconst (v := zI 1) C.1 C.2.1 dX12_spanOf_112 (by decide) ?_
                  exact hret _ _ _ _ (zI 1) hS ⟨congrArg (fun x : Int => some (zV x)) (by show (1 : Int) = spM b; unfold spM; rw [if_neg (by omega), if_pos (by omega)]), rfl⟩ rfl dX12_spanOf_113
                · have J99 : (¬ (96 ≤ b ∧ b ≤ 119 ∧ b % 4 < 2)) → W p l e (rmk 1) s m args below meth c H [] 0 0 Q (F0 m 99 ls []) := by
                    intro j99
                    have J114 : (¬ (120 ≤ b ∧ b ≤ 131)) → W p l e (rmk 1) s m args below meth c H [] 0 0 Q (F0 m 114 ls []) := by
                      intro j114
                      refine lv_iload_n C.1 C.2.1 dX12_spanOf_114 rfl (lv_at hl 0 rfl) ?_
                      refine lv_sipush (v := zI 133) C.1 C.2.1 dX12_spanOf_115 (by decide) ?_
                      refine y_icmp_eq (tgt := 184) C (a := ((b : Nat) : Int)) (b := 133) dX12_spanOf_118 (by decide) (by omega) (fun h118 => ?_) (fun h118 => ?_)
                      · refine lv_iconst (v := zI 1) C.1 C.2.1 dX12_spanOf_184 (by decide) ?_
                        exact hret _ _ _ _ (zI 1) hS ⟨congrArg (fun x : Int => some (zV x)) (by show (1 : Int) = spM b; unfold spM; rw [if_neg (by omega), if_neg (by omega), if_pos (by omega)]), rfl⟩ rfl dX12_spanOf_185
                      · refine lv_iload_n C.1 C.2.1 dX12_spanOf_121 rfl (lv_at hl 0 rfl) ?_
                        refine lv_sipush (v := zI 136) C.1 C.2.1 dX12_spanOf_122 (by decide) ?_
                        refine y_icmp_eq (tgt := 184) C (a := ((b : Nat) : Int)) (b := 136) dX12_spanOf_125 (by decide) (by omega) (fun h125 => ?_) (fun h125 => ?_)
                        · refine lv_iconst (v := zI 1) C.1 C.2.1 dX12_spanOf_184 (by decide) ?_
                          exact hret _ _ _ _ (zI 1) hS ⟨congrArg (fun x : Int => some (zV x)) (by show (1 : Int) = spM b; unfold spM; rw [if_neg (by omega), if_neg (by omega), if_pos (by omega)]), rfl⟩ rfl dX12_spanOf_185
                        · have J142 : (¬ (145 ≤ b ∧ b ≤ 148)) → W p l e (rmk 1) s m args below meth c H [] 0 0 Q (F0 m 142 ls []) := by
                            intro j142
                            refine lv_iload_n C.1 C.2.1 dX12_spanOf_142 rfl (lv_at hl 0 rfl) ?_
                            refine lv_sipush (v := zI 172) C.1 C.2.1 dX12_spanOf_143 (by decide) ?_
                            refine y_icmp_eq (tgt := 184) C (a := ((b : Nat) : Int)) (b := 172) dX12_spanOf_146 (by decide) (by omega) (fun h146 => ?_) (fun h146 => ?_)
                            · refine lv_iconst (v := zI 1) C.1 C.2.1 dX12_spanOf_184 (by decide) ?_
                              exact hret _ _ _ _ (zI 1) hS ⟨congrArg (fun x : Int => some (zV x)) (by show (1 : Int) = spM b; unfold spM; rw [if_neg (by omega), if_neg (by omega), if_pos (by omega)]), rfl⟩ rfl dX12_spanOf_185
                            · refine lv_iload_n C.1 C.2.1 dX12_spanOf_149 rfl (lv_at hl 0 rfl) ?_
                              refine lv_sipush (v := zI 173) C.1 C.2.1 dX12_spanOf_150 (by decide) ?_
                              refine y_icmp_eq (tgt := 184) C (a := ((b : Nat) : Int)) (b := 173) dX12_spanOf_153 (by decide) (by omega) (fun h153 => ?_) (fun h153 => ?_)
                              · refine lv_iconst (v := zI 1) C.1 C.2.1 dX12_spanOf_184 (by decide) ?_
                                exact hret _ _ _ _ (zI 1) hS ⟨congrArg (fun x : Int => some (zV x)) (by show (1 : Int) = spM b; unfold spM; rw [if_neg (by omega), if_neg (by omega), if_pos (by omega)]), rfl⟩ rfl dX12_spanOf_185
                              · refine lv_iload_n C.1 C.2.1 dX12_spanOf_156 rfl (lv_at hl 0 rfl) ?_
                                refine lv_sipush (v := zI 176) C.1 C.2.1 dX12_spanOf_157 (by decide) ?_
                                refine y_icmp_eq (tgt := 184) C (a := ((b : Nat) : Int)) (b := 176) dX12_spanOf_160 (by decide) (by omega) (fun h160 => ?_) (fun h160 => ?_)
                                · refine lv_iconst (v := zI 1) C.1 C.2.1 dX12_spanOf_184 (by decide) ?_
                                  exact hret _ _ _ _ (zI 1) hS ⟨congrArg (fun x : Int => some (zV x)) (by show (1 : Int) = spM b; unfold spM; rw [if_neg (by omega), if_neg (by omega), if_pos (by omega)]), rfl⟩ rfl dX12_spanOf_185
                                · refine lv_iload_n C.1 C.2.1 dX12_spanOf_163 rfl (lv_at hl 0 rfl) ?_
                                  refine lv_sipush (v := zI 177) C.1 C.2.1 dX12_spanOf_164 (by decide) ?_
                                  refine y_icmp_eq (tgt := 184) C (a := ((b : Nat) : Int)) (b := 177) dX12_spanOf_167 (by decide) (by omega) (fun h167 => ?_) (fun h167 => ?_)
                                  · refine lv_iconst (v := zI 1) C.1 C.2.1 dX12_spanOf_184 (by decide) ?_
                                    exact hret _ _ _ _ (zI 1) hS ⟨congrArg (fun x : Int => some (zV x)) (by show (1 : Int) = spM b; unfold spM; rw [if_neg (by omega), if_neg (by omega), if_pos (by omega)]), rfl⟩ rfl dX12_spanOf_185
                                  · refine lv_iload_n C.1 C.2.1 dX12_spanOf_170 rfl (lv_at hl 0 rfl) ?_
                                    refine lv_sipush (v := zI 190) C.1 C.2.1 dX12_spanOf_171 (by decide) ?_
                                    refine y_icmp_eq (tgt := 184) C (a := ((b : Nat) : Int)) (b := 190) dX12_spanOf_174 (by decide) (by omega) (fun h174 => ?_) (fun h174 => ?_)
                                    · refine lv_iconst (v := zI 1) C.1 C.2.1 dX12_spanOf_184 (by decide) ?_
                                      exact hret _ _ _ _ (zI 1) hS ⟨congrArg (fun x : Int => some (zV x)) (by show (1 : Int) = spM b; unfold spM; rw [if_neg (by omega), if_neg (by omega), if_pos (by omega)]), rfl⟩ rfl dX12_spanOf_185
                                    · refine lv_iload_n C.1 C.2.1 dX12_spanOf_177 rfl (lv_at hl 0 rfl) ?_
                                      refine lv_sipush (v := zI 191) C.1 C.2.1 dX12_spanOf_178 (by decide) ?_
                                      refine y_icmp_ne (tgt := 186) C (a := ((b : Nat) : Int)) (b := 191) dX12_spanOf_181 (by decide) (by omega) (fun h181 => ?_) (fun h181 => ?_)
                                      · refine lv_iload_n C.1 C.2.1 dX12_spanOf_186 rfl (lv_at hl 0 rfl) ?_
                                        refine lv_bipush (v := zI 16) C.1 C.2.1 dX12_spanOf_187 (by decide) ?_
                                        refine y_icmp_eq (tgt := 241) C (a := ((b : Nat) : Int)) (b := 16) dX12_spanOf_189 (by decide) (by omega) (fun h189 => ?_) (fun h189 => ?_)
                                        · refine lv_iconst (v := zI 2) C.1 C.2.1 dX12_spanOf_241 (by decide) ?_
                                          exact hret _ _ _ _ (zI 2) hS ⟨congrArg (fun x : Int => some (zV x)) (by show (2 : Int) = spM b; unfold spM; rw [if_neg (by omega), if_neg (by omega), if_neg (by omega), if_pos (by omega)]), rfl⟩ rfl dX12_spanOf_242
                                        · refine lv_iload_n C.1 C.2.1 dX12_spanOf_192 rfl (lv_at hl 0 rfl) ?_
                                          refine lv_bipush (v := zI 18) C.1 C.2.1 dX12_spanOf_193 (by decide) ?_
                                          refine y_icmp_eq (tgt := 241) C (a := ((b : Nat) : Int)) (b := 18) dX12_spanOf_195 (by decide) (by omega) (fun h195 => ?_) (fun h195 => ?_)
                                          · refine lv_iconst (v := zI 2) C.1 C.2.1 dX12_spanOf_241 (by decide) ?_
                                            exact hret _ _ _ _ (zI 2) hS ⟨congrArg (fun x : Int => some (zV x)) (by show (2 : Int) = spM b; unfold spM; rw [if_neg (by omega), if_neg (by omega), if_neg (by omega), if_pos (by omega)]), rfl⟩ rfl dX12_spanOf_242
                                          · refine lv_iload_n C.1 C.2.1 dX12_spanOf_198 rfl (lv_at hl 0 rfl) ?_
                                            refine lv_bipush (v := zI 21) C.1 C.2.1 dX12_spanOf_199 (by decide) ?_
                                            refine y_icmp_eq (tgt := 241) C (a := ((b : Nat) : Int)) (b := 21) dX12_spanOf_201 (by decide) (by omega) (fun h201 => ?_) (fun h201 => ?_)
                                            · refine lv_iconst (v := zI 2) C.1 C.2.1 dX12_spanOf_241 (by decide) ?_
                                              exact hret _ _ _ _ (zI 2) hS ⟨congrArg (fun x : Int => some (zV x)) (by show (2 : Int) = spM b; unfold spM; rw [if_neg (by omega), if_neg (by omega), if_neg (by omega), if_pos (by omega)]), rfl⟩ rfl dX12_spanOf_242
                                            · refine lv_iload_n C.1 C.2.1 dX12_spanOf_204 rfl (lv_at hl 0 rfl) ?_
                                              refine lv_bipush (v := zI 22) C.1 C.2.1 dX12_spanOf_205 (by decide) ?_
                                              refine y_icmp_eq (tgt := 241) C (a := ((b : Nat) : Int)) (b := 22) dX12_spanOf_207 (by decide) (by omega) (fun h207 => ?_) (fun h207 => ?_)
                                              · refine lv_iconst (v := zI 2) C.1 C.2.1 dX12_spanOf_241 (by decide) ?_
                                                exact hret _ _ _ _ (zI 2) hS ⟨congrArg (fun x : Int => some (zV x)) (by show (2 : Int) = spM b; unfold spM; rw [if_neg (by omega), if_neg (by omega), if_neg (by omega), if_pos (by omega)]), rfl⟩ rfl dX12_spanOf_242
                                              · refine lv_iload_n C.1 C.2.1 dX12_spanOf_210 rfl (lv_at hl 0 rfl) ?_
                                                refine lv_bipush (v := zI 25) C.1 C.2.1 dX12_spanOf_211 (by decide) ?_
                                                refine y_icmp_eq (tgt := 241) C (a := ((b : Nat) : Int)) (b := 25) dX12_spanOf_213 (by decide) (by omega) (fun h213 => ?_) (fun h213 => ?_)
                                                · refine lv_iconst (v := zI 2) C.1 C.2.1 dX12_spanOf_241 (by decide) ?_
                                                  exact hret _ _ _ _ (zI 2) hS ⟨congrArg (fun x : Int => some (zV x)) (by show (2 : Int) = spM b; unfold spM; rw [if_neg (by omega), if_neg (by omega), if_neg (by omega), if_pos (by omega)]), rfl⟩ rfl dX12_spanOf_242
                                                · refine lv_iload_n C.1 C.2.1 dX12_spanOf_216 rfl (lv_at hl 0 rfl) ?_
                                                  refine lv_bipush (v := zI 54) C.1 C.2.1 dX12_spanOf_217 (by decide) ?_
                                                  refine y_icmp_eq (tgt := 241) C (a := ((b : Nat) : Int)) (b := 54) dX12_spanOf_219 (by decide) (by omega) (fun h219 => ?_) (fun h219 => ?_)
                                                  · refine lv_iconst (v := zI 2) C.1 C.2.1 dX12_spanOf_241 (by decide) ?_
                                                    exact hret _ _ _ _ (zI 2) hS ⟨congrArg (fun x : Int => some (zV x)) (by show (2 : Int) = spM b; unfold spM; rw [if_neg (by omega), if_neg (by omega), if_neg (by omega), if_pos (by omega)]), rfl⟩ rfl dX12_spanOf_242
                                                  · refine lv_iload_n C.1 C.2.1 dX12_spanOf_222 rfl (lv_at hl 0 rfl) ?_
                                                    refine lv_bipush (v := zI 55) C.1 C.2.1 dX12_spanOf_223 (by decide) ?_
                                                    refine y_icmp_eq (tgt := 241) C (a := ((b : Nat) : Int)) (b := 55) dX12_spanOf_225 (by decide) (by omega) (fun h225 => ?_) (fun h225 => ?_)
                                                    · refine lv_iconst (v := zI 2) C.1 C.2.1 dX12_spanOf_241 (by decide) ?_
                                                      exact hret _ _ _ _ (zI 2) hS ⟨congrArg (fun x : Int => some (zV x)) (by show (2 : Int) = spM b; unfold spM; rw [if_neg (by omega), if_neg (by omega), if_neg (by omega), if_pos (by omega)]), rfl⟩ rfl dX12_spanOf_242
                                                    · refine lv_iload_n C.1 C.2.1 dX12_spanOf_228 rfl (lv_at hl 0 rfl) ?_
                                                      refine lv_bipush (v := zI 58) C.1 C.2.1 dX12_spanOf_229 (by decide) ?_
                                                      refine y_icmp_eq (tgt := 241) C (a := ((b : Nat) : Int)) (b := 58) dX12_spanOf_231 (by decide) (by omega) (fun h231 => ?_) (fun h231 => ?_)
                                                      · refine lv_iconst (v := zI 2) C.1 C.2.1 dX12_spanOf_241 (by decide) ?_
                                                        exact hret _ _ _ _ (zI 2) hS ⟨congrArg (fun x : Int => some (zV x)) (by show (2 : Int) = spM b; unfold spM; rw [if_neg (by omega), if_neg (by omega), if_neg (by omega), if_pos (by omega)]), rfl⟩ rfl dX12_spanOf_242
                                                      · refine lv_iload_n C.1 C.2.1 dX12_spanOf_234 rfl (lv_at hl 0 rfl) ?_
                                                        refine lv_sipush (v := zI 188) C.1 C.2.1 dX12_spanOf_235 (by decide) ?_
                                                        refine y_icmp_ne (tgt := 243) C (a := ((b : Nat) : Int)) (b := 188) dX12_spanOf_238 (by decide) (by omega) (fun h238 => ?_) (fun h238 => ?_)
                                                        · refine lv_iload_n C.1 C.2.1 dX12_spanOf_243 rfl (lv_at hl 0 rfl) ?_
                                                          refine lv_bipush (v := zI 17) C.1 C.2.1 dX12_spanOf_244 (by decide) ?_
                                                          refine y_icmp_eq (tgt := 317) C (a := ((b : Nat) : Int)) (b := 17) dX12_spanOf_246 (by decide) (by omega) (fun h246 => ?_) (fun h246 => ?_)
                                                          · refine lv_iconst (v := zI 3) C.1 C.2.1 dX12_spanOf_317 (by decide) ?_
                                                            exact hret _ _ _ _ (zI 3) hS ⟨congrArg (fun x : Int => some (zV x)) (by show (3 : Int) = spM b; unfold spM; rw [if_neg (by omega), if_neg (by omega), if_neg (by omega), if_neg (by omega), if_pos (by omega)]), rfl⟩ rfl dX12_spanOf_318
                                                          · refine lv_iload_n C.1 C.2.1 dX12_spanOf_249 rfl (lv_at hl 0 rfl) ?_
                                                            refine lv_bipush (v := zI 19) C.1 C.2.1 dX12_spanOf_250 (by decide) ?_
                                                            refine y_icmp_eq (tgt := 317) C (a := ((b : Nat) : Int)) (b := 19) dX12_spanOf_252 (by decide) (by omega) (fun h252 => ?_) (fun h252 => ?_)
                                                            · refine lv_iconst (v := zI 3) C.1 C.2.1 dX12_spanOf_317 (by decide) ?_
                                                              exact hret _ _ _ _ (zI 3) hS ⟨congrArg (fun x : Int => some (zV x)) (by show (3 : Int) = spM b; unfold spM; rw [if_neg (by omega), if_neg (by omega), if_neg (by omega), if_neg (by omega), if_pos (by omega)]), rfl⟩ rfl dX12_spanOf_318
                                                            · refine lv_iload_n C.1 C.2.1 dX12_spanOf_255 rfl (lv_at hl 0 rfl) ?_
                                                              refine lv_bipush (v := zI 20) C.1 C.2.1 dX12_spanOf_256 (by decide) ?_
                                                              refine y_icmp_eq (tgt := 317) C (a := ((b : Nat) : Int)) (b := 20) dX12_spanOf_258 (by decide) (by omega) (fun h258 => ?_) (fun h258 => ?_)
                                                              · refine lv_iconst (v := zI 3) C.1 C.2.1 dX12_spanOf_317 (by decide) ?_
                                                                exact hret _ _ _ _ (zI 3) hS ⟨congrArg (fun x : Int => some (zV x)) (by show (3 : Int) = spM b; unfold spM; rw [if_neg (by omega), if_neg (by omega), if_neg (by omega), if_neg (by omega), if_pos (by omega)]), rfl⟩ rfl dX12_spanOf_318
                                                              · refine lv_iload_n C.1 C.2.1 dX12_spanOf_261 rfl (lv_at hl 0 rfl) ?_
                                                                refine lv_sipush (v := zI 132) C.1 C.2.1 dX12_spanOf_262 (by decide) ?_
                                                                refine y_icmp_eq (tgt := 317) C (a := ((b : Nat) : Int)) (b := 132) dX12_spanOf_265 (by decide) (by omega) (fun h265 => ?_) (fun h265 => ?_)
                                                                · refine lv_iconst (v := zI 3) C.1 C.2.1 dX12_spanOf_317 (by decide) ?_
                                                                  exact hret _ _ _ _ (zI 3) hS ⟨congrArg (fun x : Int => some (zV x)) (by show (3 : Int) = spM b; unfold spM; rw [if_neg (by omega), if_neg (by omega), if_neg (by omega), if_neg (by omega), if_pos (by omega)]), rfl⟩ rfl dX12_spanOf_318
                                                                · have J282 : (¬ (153 ≤ b ∧ b ≤ 167)) → W p l e (rmk 1) s m args below meth c H [] 0 0 Q (F0 m 282 ls []) := by
                                                                    intro j282
                                                                    refine lv_iload_n C.1 C.2.1 dX12_spanOf_282 rfl (lv_at hl 0 rfl) ?_
                                                                    refine lv_sipush (v := zI 178) C.1 C.2.1 dX12_spanOf_283 (by decide) ?_
                                                                    refine y_icmp_eq (tgt := 317) C (a := ((b : Nat) : Int)) (b := 178) dX12_spanOf_286 (by decide) (by omega) (fun h286 => ?_) (fun h286 => ?_)
                                                                    · refine lv_iconst (v := zI 3) C.1 C.2.1 dX12_spanOf_317 (by decide) ?_
                                                                      exact hret _ _ _ _ (zI 3) hS ⟨congrArg (fun x : Int => some (zV x)) (by show (3 : Int) = spM b; unfold spM; rw [if_neg (by omega), if_neg (by omega), if_neg (by omega), if_neg (by omega), if_pos (by omega)]), rfl⟩ rfl dX12_spanOf_318
                                                                    · refine lv_iload_n C.1 C.2.1 dX12_spanOf_289 rfl (lv_at hl 0 rfl) ?_
                                                                      refine lv_sipush (v := zI 179) C.1 C.2.1 dX12_spanOf_290 (by decide) ?_
                                                                      refine y_icmp_eq (tgt := 317) C (a := ((b : Nat) : Int)) (b := 179) dX12_spanOf_293 (by decide) (by omega) (fun h293 => ?_) (fun h293 => ?_)
                                                                      · refine lv_iconst (v := zI 3) C.1 C.2.1 dX12_spanOf_317 (by decide) ?_
                                                                        exact hret _ _ _ _ (zI 3) hS ⟨congrArg (fun x : Int => some (zV x)) (by show (3 : Int) = spM b; unfold spM; rw [if_neg (by omega), if_neg (by omega), if_neg (by omega), if_neg (by omega), if_pos (by omega)]), rfl⟩ rfl dX12_spanOf_318
                                                                      · refine lv_iload_n C.1 C.2.1 dX12_spanOf_296 rfl (lv_at hl 0 rfl) ?_
                                                                        refine lv_sipush (v := zI 184) C.1 C.2.1 dX12_spanOf_297 (by decide) ?_
                                                                        refine y_icmp_eq (tgt := 317) C (a := ((b : Nat) : Int)) (b := 184) dX12_spanOf_300 (by decide) (by omega) (fun h300 => ?_) (fun h300 => ?_)
                                                                        · refine lv_iconst (v := zI 3) C.1 C.2.1 dX12_spanOf_317 (by decide) ?_
                                                                          exact hret _ _ _ _ (zI 3) hS ⟨congrArg (fun x : Int => some (zV x)) (by show (3 : Int) = spM b; unfold spM; rw [if_neg (by omega), if_neg (by omega), if_neg (by omega), if_neg (by omega), if_pos (by omega)]), rfl⟩ rfl dX12_spanOf_318
                                                                        · refine lv_iload_n C.1 C.2.1 dX12_spanOf_303 rfl (lv_at hl 0 rfl) ?_
                                                                          refine lv_sipush (v := zI 198) C.1 C.2.1 dX12_spanOf_304 (by decide) ?_
                                                                          refine y_icmp_eq (tgt := 317) C (a := ((b : Nat) : Int)) (b := 198) dX12_spanOf_307 (by decide) (by omega) (fun h307 => ?_) (fun h307 => ?_)
                                                                          · refine lv_iconst (v := zI 3) C.1 C.2.1 dX12_spanOf_317 (by decide) ?_
                                                                            exact hret _ _ _ _ (zI 3) hS ⟨congrArg (fun x : Int => some (zV x)) (by show (3 : Int) = spM b; unfold spM; rw [if_neg (by omega), if_neg (by omega), if_neg (by omega), if_neg (by omega), if_pos (by omega)]), rfl⟩ rfl dX12_spanOf_318
                                                                          · refine lv_iload_n C.1 C.2.1 dX12_spanOf_310 rfl (lv_at hl 0 rfl) ?_
                                                                            refine lv_sipush (v := zI 199) C.1 C.2.1 dX12_spanOf_311 (by decide) ?_
                                                                            refine y_icmp_ne (tgt := 319) C (a := ((b : Nat) : Int)) (b := 199) dX12_spanOf_314 (by decide) (by omega) (fun h314 => ?_) (fun h314 => ?_)
                                                                            · refine lv_iload_n C.1 C.2.1 dX12_spanOf_319 rfl (lv_at hl 0 rfl) ?_
                                                                              refine lv_sipush (v := zI 200) C.1 C.2.1 dX12_spanOf_320 (by decide) ?_
                                                                              refine y_icmp_ne (tgt := 330) C (a := ((b : Nat) : Int)) (b := 200) dX12_spanOf_323 (by decide) (by omega) (fun h323 => ?_) (fun h323 => ?_)
                                                                              · refine lv_iload_n C.1 C.2.1 dX12_spanOf_330 rfl (lv_at hl 0 rfl) ?_
                                                                                refine lv_sipush (v := zI 170) C.1 C.2.1 dX12_spanOf_331 (by decide) ?_
                                                                                refine y_icmp_eq (tgt := 344) C (a := ((b : Nat) : Int)) (b := 170) dX12_spanOf_334 (by decide) (by omega) (fun h334 => ?_) (fun h334 => ?_)
                                                                                · refine lv_iconst (v := zI (-1)) C.1 C.2.1 dX12_spanOf_344 (by decide) ?_
                                                                                  refine lv_goto (tgt := 361) C.1 C.2.1 dX12_spanOf_345 (by decide) ?_
                                                                                  exact hret _ _ _ _ (zI (-1)) hS ⟨congrArg (fun x : Int => some (zV x)) (by show (-1 : Int) = spM b; unfold spM; rw [if_neg (by omega), if_neg (by omega), if_neg (by omega), if_neg (by omega), if_neg (by omega)]; (repeat' split) <;> omega), rfl⟩ rfl dX12_spanOf_361
                                                                                · refine lv_iload_n C.1 C.2.1 dX12_spanOf_337 rfl (lv_at hl 0 rfl) ?_
                                                                                  refine lv_sipush (v := zI 171) C.1 C.2.1 dX12_spanOf_338 (by decide) ?_
                                                                                  refine y_icmp_ne (tgt := 348) C (a := ((b : Nat) : Int)) (b := 171) dX12_spanOf_341 (by decide) (by omega) (fun h341 => ?_) (fun h341 => ?_)
                                                                                  · refine lv_iload_n C.1 C.2.1 dX12_spanOf_348 rfl (lv_at hl 0 rfl) ?_
                                                                                    refine lv_sipush (v := zI 196) C.1 C.2.1 dX12_spanOf_349 (by decide) ?_
                                                                                    refine y_icmp_ne (tgt := 360) C (a := ((b : Nat) : Int)) (b := 196) dX12_spanOf_352 (by decide) (by omega) (fun h352 => ?_) (fun h352 => ?_)
                                                                                    · refine lv_iconst (v := zI 0) C.1 C.2.1 dX12_spanOf_360 (by decide) ?_
                                                                                      exact hret _ _ _ _ (zI 0) hS ⟨congrArg (fun x : Int => some (zV x)) (by show (0 : Int) = spM b; unfold spM; rw [if_neg (by omega), if_neg (by omega), if_neg (by omega), if_neg (by omega), if_neg (by omega)]; (repeat' split) <;> omega), rfl⟩ rfl dX12_spanOf_361
                                                                                    · refine lv_bipush (v := zI (-2)) C.1 C.2.1 dX12_spanOf_355 (by decide) ?_
                                                                                      refine lv_goto (tgt := 361) C.1 C.2.1 dX12_spanOf_357 (by decide) ?_
                                                                                      exact hret _ _ _ _ (zI (-2)) hS ⟨congrArg (fun x : Int => some (zV x)) (by show (-2 : Int) = spM b; unfold spM; rw [if_neg (by omega), if_neg (by omega), if_neg (by omega), if_neg (by omega), if_neg (by omega)]; (repeat' split) <;> omega), rfl⟩ rfl dX12_spanOf_361
                                                                                  · refine lv_iconst (v := zI (-1)) C.1 C.2.1 dX12_spanOf_344 (by decide) ?_
                                                                                    refine lv_goto (tgt := 361) C.1 C.2.1 dX12_spanOf_345 (by decide) ?_
                                                                                    exact hret _ _ _ _ (zI (-1)) hS ⟨congrArg (fun x : Int => some (zV x)) (by show (-1 : Int) = spM b; unfold spM; rw [if_neg (by omega), if_neg (by omega), if_neg (by omega), if_neg (by omega), if_neg (by omega)]; (repeat' split) <;> omega), rfl⟩ rfl dX12_spanOf_361
                                                                              · refine lv_iconst (v := zI 5) C.1 C.2.1 dX12_spanOf_326 (by decide) ?_
                                                                                refine lv_goto (tgt := 361) C.1 C.2.1 dX12_spanOf_327 (by decide) ?_
                                                                                exact hret _ _ _ _ (zI 5) hS ⟨congrArg (fun x : Int => some (zV x)) (by show (5 : Int) = spM b; unfold spM; rw [if_neg (by omega), if_neg (by omega), if_neg (by omega), if_neg (by omega), if_neg (by omega)]; (repeat' split) <;> omega), rfl⟩ rfl dX12_spanOf_361
                                                                            · refine lv_iconst (v := zI 3) C.1 C.2.1 dX12_spanOf_317 (by decide) ?_
                                                                              exact hret _ _ _ _ (zI 3) hS ⟨congrArg (fun x : Int => some (zV x)) (by show (3 : Int) = spM b; unfold spM; rw [if_neg (by omega), if_neg (by omega), if_neg (by omega), if_neg (by omega), if_pos (by omega)]), rfl⟩ rfl dX12_spanOf_318
                                                                  refine lv_iload_n C.1 C.2.1 dX12_spanOf_268 rfl (lv_at hl 0 rfl) ?_
                                                                  refine lv_sipush (v := zI 153) C.1 C.2.1 dX12_spanOf_269 (by decide) ?_
                                                                  refine y_icmp_lt (tgt := 282) C (a := ((b : Nat) : Int)) (b := 153) dX12_spanOf_272 (by decide) (by omega) (fun h272 => ?_) (fun h272 => ?_)
                                                                  · exact J282 (by omega)
                                                                  · refine lv_iload_n C.1 C.2.1 dX12_spanOf_275 rfl (lv_at hl 0 rfl) ?_
                                                                    refine lv_sipush (v := zI 167) C.1 C.2.1 dX12_spanOf_276 (by decide) ?_
                                                                    refine y_icmp_le (tgt := 317) C (a := ((b : Nat) : Int)) (b := 167) dX12_spanOf_279 (by decide) (by omega) (fun h279 => ?_) (fun h279 => ?_)
                                                                    · refine lv_iconst (v := zI 3) C.1 C.2.1 dX12_spanOf_317 (by decide) ?_
                                                                      exact hret _ _ _ _ (zI 3) hS ⟨congrArg (fun x : Int => some (zV x)) (by show (3 : Int) = spM b; unfold spM; rw [if_neg (by omega), if_neg (by omega), if_neg (by omega), if_neg (by omega), if_pos (by omega)]), rfl⟩ rfl dX12_spanOf_318
                                                                    · exact J282 (by omega)
                                                        · refine lv_iconst (v := zI 2) C.1 C.2.1 dX12_spanOf_241 (by decide) ?_
                                                          exact hret _ _ _ _ (zI 2) hS ⟨congrArg (fun x : Int => some (zV x)) (by show (2 : Int) = spM b; unfold spM; rw [if_neg (by omega), if_neg (by omega), if_neg (by omega), if_pos (by omega)]), rfl⟩ rfl dX12_spanOf_242
                                      · refine lv_iconst (v := zI 1) C.1 C.2.1 dX12_spanOf_184 (by decide) ?_
                                        exact hret _ _ _ _ (zI 1) hS ⟨congrArg (fun x : Int => some (zV x)) (by show (1 : Int) = spM b; unfold spM; rw [if_neg (by omega), if_neg (by omega), if_pos (by omega)]), rfl⟩ rfl dX12_spanOf_185
                          refine lv_iload_n C.1 C.2.1 dX12_spanOf_128 rfl (lv_at hl 0 rfl) ?_
                          refine lv_sipush (v := zI 145) C.1 C.2.1 dX12_spanOf_129 (by decide) ?_
                          refine y_icmp_lt (tgt := 142) C (a := ((b : Nat) : Int)) (b := 145) dX12_spanOf_132 (by decide) (by omega) (fun h132 => ?_) (fun h132 => ?_)
                          · exact J142 (by omega)
                          · refine lv_iload_n C.1 C.2.1 dX12_spanOf_135 rfl (lv_at hl 0 rfl) ?_
                            refine lv_sipush (v := zI 148) C.1 C.2.1 dX12_spanOf_136 (by decide) ?_
                            refine y_icmp_le (tgt := 184) C (a := ((b : Nat) : Int)) (b := 148) dX12_spanOf_139 (by decide) (by omega) (fun h139 => ?_) (fun h139 => ?_)
                            · refine lv_iconst (v := zI 1) C.1 C.2.1 dX12_spanOf_184 (by decide) ?_
                              exact hret _ _ _ _ (zI 1) hS ⟨congrArg (fun x : Int => some (zV x)) (by show (1 : Int) = spM b; unfold spM; rw [if_neg (by omega), if_neg (by omega), if_pos (by omega)]), rfl⟩ rfl dX12_spanOf_185
                            · exact J142 (by omega)
                    refine lv_iload_n C.1 C.2.1 dX12_spanOf_99 rfl (lv_at hl 0 rfl) ?_
                    refine lv_bipush (v := zI 120) C.1 C.2.1 dX12_spanOf_100 (by decide) ?_
                    refine y_icmp_lt (tgt := 114) C (a := ((b : Nat) : Int)) (b := 120) dX12_spanOf_102 (by decide) (by omega) (fun h102 => ?_) (fun h102 => ?_)
                    · exact J114 (by omega)
                    · refine lv_iload_n C.1 C.2.1 dX12_spanOf_105 rfl (lv_at hl 0 rfl) ?_
                      refine lv_sipush (v := zI 131) C.1 C.2.1 dX12_spanOf_106 (by decide) ?_
                      refine y_icmp_gt (tgt := 114) C (a := ((b : Nat) : Int)) (b := 131) dX12_spanOf_109 (by decide) (by omega) (fun h109 => ?_) (fun h109 => ?_)
                      · exact J114 (by omega)
                      · refine lv_iconst (v := zI 1) C.1 C.2.1 dX12_spanOf_112 (by decide) ?_
                        exact hret _ _ _ _ (zI 1) hS ⟨congrArg (fun x : Int => some (zV x)) (by show (1 : Int) = spM b; unfold spM; rw [if_neg (by omega), if_pos (by omega)]), rfl⟩ rfl dX12_spanOf_113
                  refine lv_iload_n C.1 C.2.1 dX12_spanOf_80 rfl (lv_at hl 0 rfl) ?_
                  refine lv_bipush (v := zI 96) C.1 C.2.1 dX12_spanOf_81 (by decide) ?_
                  refine y_icmp_lt (tgt := 99) C (a := ((b : Nat) : Int)) (b := 96) dX12_spanOf_83 (by decide) (by omega) (fun h83 => ?_) (fun h83 => ?_)
                  · exact J99 (by omega)
                  · refine lv_iload_n C.1 C.2.1 dX12_spanOf_86 rfl (lv_at hl 0 rfl) ?_
                    refine lv_bipush (v := zI 119) C.1 C.2.1 dX12_spanOf_87 (by decide) ?_
                    refine y_icmp_gt (tgt := 99) C (a := ((b : Nat) : Int)) (b := 119) dX12_spanOf_89 (by decide) (by omega) (fun h89 => ?_) (fun h89 => ?_)
                    · exact J99 (by omega)
                    · refine lv_iload_n C.1 C.2.1 dX12_spanOf_92 rfl (lv_at hl 0 rfl) ?_
                      refine lv_iconst (v := zI 4) C.1 C.2.1 dX12_spanOf_93 (by decide) ?_
                      refine lv_irem C.1 C.2.1 dX12_spanOf_94 (by decide) ?_
                      refine z_re (y := zI ((b % 4 : Nat) : Int)) (irem4 (by omega)) ?_
                      refine lv_iconst (v := zI 2) C.1 C.2.1 dX12_spanOf_95 (by decide) ?_
                      refine y_icmp_lt (tgt := 112) C (a := ((b % 4 : Nat) : Int)) (b := 2) dX12_spanOf_96 (by decide) (by omega) (fun h96 => ?_) (fun h96 => ?_)
                      · refine lv_iconst (v := zI 1) C.1 C.2.1 dX12_spanOf_112 (by decide) ?_
                        exact hret _ _ _ _ (zI 1) hS ⟨congrArg (fun x : Int => some (zV x)) (by show (1 : Int) = spM b; unfold spM; rw [if_neg (by omega), if_pos (by omega)]), rfl⟩ rfl dX12_spanOf_113
                      · exact J99 (by omega)
            refine lv_iload_n C.1 C.2.1 dX12_spanOf_56 rfl (lv_at hl 0 rfl) ?_
            refine lv_bipush (v := zI 87) C.1 C.2.1 dX12_spanOf_57 (by decide) ?_
            refine y_icmp_lt (tgt := 68) C (a := ((b : Nat) : Int)) (b := 87) dX12_spanOf_59 (by decide) (by omega) (fun h59 => ?_) (fun h59 => ?_)
            · exact J68 (by omega)
            · refine lv_iload_n C.1 C.2.1 dX12_spanOf_62 rfl (lv_at hl 0 rfl) ?_
              refine lv_bipush (v := zI 90) C.1 C.2.1 dX12_spanOf_63 (by decide) ?_
              refine y_icmp_le (tgt := 112) C (a := ((b : Nat) : Int)) (b := 90) dX12_spanOf_65 (by decide) (by omega) (fun h65 => ?_) (fun h65 => ?_)
              · refine lv_iconst (v := zI 1) C.1 C.2.1 dX12_spanOf_112 (by decide) ?_
                exact hret _ _ _ _ (zI 1) hS ⟨congrArg (fun x : Int => some (zV x)) (by show (1 : Int) = spM b; unfold spM; rw [if_neg (by omega), if_pos (by omega)]), rfl⟩ rfl dX12_spanOf_113
              · exact J68 (by omega)
          refine lv_iload_n C.1 C.2.1 dX12_spanOf_42 rfl (lv_at hl 0 rfl) ?_
          refine lv_bipush (v := zI 75) C.1 C.2.1 dX12_spanOf_43 (by decide) ?_
          refine y_icmp_lt (tgt := 56) C (a := ((b : Nat) : Int)) (b := 75) dX12_spanOf_45 (by decide) (by omega) (fun h45 => ?_) (fun h45 => ?_)
          · exact J56 (by omega)
          · refine lv_iload_n C.1 C.2.1 dX12_spanOf_48 rfl (lv_at hl 0 rfl) ?_
            refine lv_bipush (v := zI 79) C.1 C.2.1 dX12_spanOf_49 (by decide) ?_
            refine y_icmp_gt (tgt := 56) C (a := ((b : Nat) : Int)) (b := 79) dX12_spanOf_51 (by decide) (by omega) (fun h51 => ?_) (fun h51 => ?_)
            · exact J56 (by omega)
            · refine lv_iconst (v := zI 1) C.1 C.2.1 dX12_spanOf_54 (by decide) ?_
              exact hret _ _ _ _ (zI 1) hS ⟨congrArg (fun x : Int => some (zV x)) (by show (1 : Int) = spM b; unfold spM; rw [if_pos (by omega)]), rfl⟩ rfl dX12_spanOf_55
        refine lv_iload_n C.1 C.2.1 dX12_spanOf_30 rfl (lv_at hl 0 rfl) ?_
        refine lv_bipush (v := zI 59) C.1 C.2.1 dX12_spanOf_31 (by decide) ?_
        refine y_icmp_lt (tgt := 42) C (a := ((b : Nat) : Int)) (b := 59) dX12_spanOf_33 (by decide) (by omega) (fun h33 => ?_) (fun h33 => ?_)
        · exact J42 (by omega)
        · refine lv_iload_n C.1 C.2.1 dX12_spanOf_36 rfl (lv_at hl 0 rfl) ?_
          refine lv_bipush (v := zI 66) C.1 C.2.1 dX12_spanOf_37 (by decide) ?_
          refine y_icmp_le (tgt := 54) C (a := ((b : Nat) : Int)) (b := 66) dX12_spanOf_39 (by decide) (by omega) (fun h39 => ?_) (fun h39 => ?_)
          · refine lv_iconst (v := zI 1) C.1 C.2.1 dX12_spanOf_54 (by decide) ?_
            exact hret _ _ _ _ (zI 1) hS ⟨congrArg (fun x : Int => some (zV x)) (by show (1 : Int) = spM b; unfold spM; rw [if_pos (by omega)]), rfl⟩ rfl dX12_spanOf_55
          · exact J42 (by omega)
      refine lv_iload_n C.1 C.2.1 dX12_spanOf_18 rfl (lv_at hl 0 rfl) ?_
      refine lv_bipush (v := zI 42) C.1 C.2.1 dX12_spanOf_19 (by decide) ?_
      refine y_icmp_lt (tgt := 30) C (a := ((b : Nat) : Int)) (b := 42) dX12_spanOf_21 (by decide) (by omega) (fun h21 => ?_) (fun h21 => ?_)
      · exact J30 (by omega)
      · refine lv_iload_n C.1 C.2.1 dX12_spanOf_24 rfl (lv_at hl 0 rfl) ?_
        refine lv_bipush (v := zI 46) C.1 C.2.1 dX12_spanOf_25 (by decide) ?_
        refine y_icmp_le (tgt := 54) C (a := ((b : Nat) : Int)) (b := 46) dX12_spanOf_27 (by decide) (by omega) (fun h27 => ?_) (fun h27 => ?_)
        · refine lv_iconst (v := zI 1) C.1 C.2.1 dX12_spanOf_54 (by decide) ?_
          exact hret _ _ _ _ (zI 1) hS ⟨congrArg (fun x : Int => some (zV x)) (by show (1 : Int) = spM b; unfold spM; rw [if_pos (by omega)]), rfl⟩ rfl dX12_spanOf_55
        · exact J30 (by omega)
    refine lv_iload_n C.1 C.2.1 dX12_spanOf_6 rfl (lv_at hl 0 rfl) ?_
    refine lv_bipush (v := zI 26) C.1 C.2.1 dX12_spanOf_7 (by decide) ?_
    refine y_icmp_lt (tgt := 18) C (a := ((b : Nat) : Int)) (b := 26) dX12_spanOf_9 (by decide) (by omega) (fun h9 => ?_) (fun h9 => ?_)
    · exact J18 (by omega)
    · refine lv_iload_n C.1 C.2.1 dX12_spanOf_12 rfl (lv_at hl 0 rfl) ?_
      refine lv_bipush (v := zI 33) C.1 C.2.1 dX12_spanOf_13 (by decide) ?_
      refine y_icmp_le (tgt := 54) C (a := ((b : Nat) : Int)) (b := 33) dX12_spanOf_15 (by decide) (by omega) (fun h15 => ?_) (fun h15 => ?_)
      · refine lv_iconst (v := zI 1) C.1 C.2.1 dX12_spanOf_54 (by decide) ?_
        exact hret _ _ _ _ (zI 1) hS ⟨congrArg (fun x : Int => some (zV x)) (by show (1 : Int) = spM b; unfold spM; rw [if_pos (by omega)]), rfl⟩ rfl dX12_spanOf_55
      · exact J18 (by omega)

def swF (k : Nat) : Nat := k + 1 + (3 - k % 4)
def luOk (F : Nat → Nat) (ca w : Nat) : Nat → Nat → Bool
  | 0, _ => true
  | c + 1, i => if S4 F (ca + (w + 8 + 8 * i)) ≤ S4 F (ca + (w + 8 * i)) then false else luOk F ca w c (i + 1)
def spW (F : Nat → Nat) (ca sz k b : Nat) : Int :=
  if sz < swF k + (if b = 170 then 12 else 8) then 0 else
  if b = 170 then (if S4 F (ca + (swF k + 8)) - S4 F (ca + (swF k + 4)) < 0 ∨ 200 < S4 F (ca + (swF k + 8)) - S4 F (ca + (swF k + 4)) then 0 else (swF k : Int) + 12 + 4 * (S4 F (ca + (swF k + 8)) - S4 F (ca + (swF k + 4)) + 1) - k) else
  if S4 F (ca + (swF k + 4)) < 0 ∨ 200 < S4 F (ca + (swF k + 4)) ∨ (sz : Int) < swF k + 8 + 8 * S4 F (ca + (swF k + 4)) then 0 else
  if luOk F ca (swF k) ((S4 F (ca + (swF k + 4))).toNat - 1) 1 = true then (swF k : Int) + 8 + 8 * S4 F (ca + (swF k + 4)) - k else 0
def wdN (w : Nat) : Int := if w = 132 then 6 else if w = 21 ∨ w = 22 ∨ w = 25 ∨ w = 54 ∨ w = 55 ∨ w = 58 then 4 else 0
def sp1 (F : Nat → Nat) (ca sz k : Nat) : Int := if spM (F (ca + k)) = -2 then (if k + 1 < sz then wdN (F (ca + (k + 1))) else 0) else spM (F (ca + k))
def spX (F : Nat → Nat) (ca sz k : Nat) : Int := if sp1 F ca sz k = -1 then spW F ca sz k (F (ca + k)) else sp1 F ca sz k
def spR (F : Nat → Nat) (ca sz k : Nat) : Int := if spX F ca sz k ≤ 0 ∨ (sz : Int) < k + spX F ca sz k then -1 else if F (ca + k) = 188 ∧ F (ca + (k + 1)) ≠ 10 then -1 else spX F ca sz k
theorem luOk_s {F : Nat → Nat} {ca w c i : Nat} (h : S4 F (ca + (w + 8 * i)) < S4 F (ca + (w + 8 + 8 * i))) : luOk F ca w (c + 1) i = luOk F ca w c (i + 1) := by
  conv => lhs; unfold luOk
  rw [if_neg (by omega)]
theorem luOk_f {F : Nat → Nat} {ca w c i : Nat} (h : S4 F (ca + (w + 8 + 8 * i)) ≤ S4 F (ca + (w + 8 * i))) : luOk F ca w (c + 1) i = false := by
  unfold luOk
  rw [if_pos h]
theorem swF_rg (k : Nat) : k + 1 ≤ swF k ∧ swF k ≤ k + 4 := by unfold swF; omega
theorem wdN_rg (w : Nat) : 0 ≤ wdN w ∧ wdN w ≤ 6 := by unfold wdN; (repeat' split) <;> decide
theorem sp1_rg (F : Nat → Nat) (ca sz k : Nat) : -1 ≤ sp1 F ca sz k ∧ sp1 F ca sz k ≤ 6 := by
  have h1 := spM_rg (F (ca + k))
  have h2 := wdN_rg (F (ca + (k + 1)))
  unfold sp1
  (repeat' split) <;> omega
theorem spW_rg {F : Nat → Nat} {ca sz k b : Nat} (hz : sz ≤ 1200) (hk : k ≤ 1200) : 0 ≤ spW F ca sz k b ∧ spW F ca sz k b ≤ 3000 := by
  have := swF_rg k
  unfold spW
  (repeat' split) <;> omega
theorem spX_rg {F : Nat → Nat} {ca sz k : Nat} (hz : sz ≤ 1200) (hk : k ≤ 1200) : 0 ≤ spX F ca sz k ∧ spX F ca sz k ≤ 3000 := by
  have h1 := sp1_rg F ca sz k
  have h2 := spW_rg (F := F) (ca := ca) (b := F (ca + k)) hz hk
  unfold spX
  split <;> omega

set_option maxHeartbeats 4000000 in
set_option maxRecDepth 20000 in
theorem c_X12_switchFrom (l : Launch) (Z : zT) {H : Heap} {t : Int} (k : Nat) (ht : t = (k : Int)) (hk : k < 2147483000) : zP l Z yX12_switchFrom cX12_switchFrom 1 (some .int) (rmk 1) [zV t] H (zN (swF k)) := by
  subst ht
  refine zM.introI (own := RX12) ⟨by decide, rfl⟩ (Nat.le_of_ble_eq_true rfl) ?_
  intro p e s m args below meth c Q ls hH C hl hret
  have hS : va_S (fun _ => False) s.heap H [] := by rw [hH]; exact va_S.rf
  have hl : lv_has ls 1 [(0, zN k)] := hl
  refine lv_iload_n C.1 C.2.1 dX12_switchFrom_0 rfl (lv_at hl 0 rfl) ?_
  refine lv_iconst (v := zI 1) C.1 C.2.1 dX12_switchFrom_1 (by decide) ?_
  refine y_iaddN C (a := k) (b := 1) dX12_switchFrom_2 ?_
  refine lv_iconst (v := zI 3) C.1 C.2.1 dX12_switchFrom_3 (by decide) ?_
  refine lv_iload_n C.1 C.2.1 dX12_switchFrom_4 rfl (lv_at hl 0 rfl) ?_
  refine lv_iconst (v := zI 4) C.1 C.2.1 dX12_switchFrom_5 (by decide) ?_
  refine lv_irem C.1 C.2.1 dX12_switchFrom_6 (by decide) ?_
  refine z_re (y := zI ((k % 4 : Nat) : Int)) (irem4 (by omega)) ?_
  refine y_isub C (a := 3) (b := ((k % 4 : Nat) : Int)) dX12_switchFrom_7 ?_
  refine y_iadd C (a := ((k + 1 : Nat) : Int)) (b := 3 - ((k % 4 : Nat) : Int)) dX12_switchFrom_8 ?_
  refine z_re (y := zI ((swF k : Nat) : Int)) (zI_c (by unfold swF; omega)) ?_
  exact hret _ _ _ _ (zI ((swF k : Nat) : Int)) hS ⟨rfl, rfl⟩ rfl dX12_switchFrom_9

set_option maxHeartbeats 4000000 in
set_option maxRecDepth 20000 in
theorem c_X12_switchSpan (l : Launch) (Z : zT) {H : Heap} {o : Nat} {ad : Nat → Nat} {σ : mS} (hM : isM Z H o ad σ) {F : Nat → Nat} {n : Nat} (hB : mSrc σ F n) {ca sz : Nat} (h32 : σ.1 32 = zI (ca : Int)) (h33 : σ.1 33 = zI (sz : Int)) (hcs : ca + sz ≤ n) (hsz : sz ≤ 1200) {t u : Int} (k b : Nat) (ht : t = (k : Int)) (hu0 : u = (b : Int)) (hk : k < sz) (hb : b < 256) : zP l Z yX12_switchSpan cX12_switchSpan 6 (some .int) (rmk 5) [.ref o, zV t, zV u] H (zV (spW F ca sz k b)) := by
  subst ht
  subst hu0
  have hn := hB.2.2.2
  refine zM.introI (own := RX12) ⟨by decide, rfl⟩ (Nat.le_of_ble_eq_true rfl) ?_
  intro p e s m args below meth c Q ls hH C hl hret
  have hS : va_S (fun _ => False) s.heap H [] := by rw [hH]; exact va_S.rf
  have hl : lv_has ls 6 [(0, .ref o), (1, zN k), (2, zN b)] := hl
  refine lv_iload_n C.1 C.2.1 dX12_switchSpan_0 rfl (lv_at hl 1 rfl) ?_
  refine z_readS C (As := [zN k]) (rest := []) (c_X12_switchFrom l Z k rfl (by omega)) ⟨⟨zw_32_19, zw_1_5, zw_32_17⟩, zd_X12_switchFrom⟩ zw_32_18 ⟨Nat.le_of_ble_eq_true rfl, Nat.le_of_ble_eq_true rfl⟩ ⟨rfl, rfl⟩ rfl hl.1 rfl (Nat.le_of_ble_eq_true rfl) dX12_switchSpan_1 ⟨Nat.zero_le _, Nat.zero_le _⟩ hS (fun locs hS => ?_)
  have hsw := swF_rg k
  refine lv_istore_n (lv' := [(3, zN (swF k)), (0, .ref o), (1, zN k), (2, zN b)]) C.1 C.2.1 dX12_switchSpan_4 rfl hl (by decide) rfl (fun ls hl => ?_)
  refine lv_iload_n C.1 C.2.1 dX12_switchSpan_5 rfl (lv_at hl 0 rfl) ?_
  refine lv_iload_n C.1 C.2.1 dX12_switchSpan_6 rfl (lv_at hl 3 rfl) ?_
  refine lv_sipush (v := zI 170) C.1 C.2.1 dX12_switchSpan_7 (by decide) ?_
  refine y_icmp_ne (tgt := 18) C (a := ((b : Nat) : Int)) (b := 170) dX12_switchSpan_10 (by decide) (by omega) (fun h10 => ?_) (fun h10 => ?_)
  · refine lv_bipush (v := zI 8) C.1 C.2.1 dX12_switchSpan_18 (by decide) ?_
    refine y_iaddN C (a := swF k) (b := 8) dX12_switchSpan_20 ?_
    refine lv_aload_n C.1 C.2.1 dX12_switchSpan_21 rfl (lv_at hl 1 rfl) ?_
    refine m_get C hM 33 (v := .int (σ.1 33)) (by decide) zw_31_18 rfl rfl dX12_switchSpan_22 ?_
    refine z_re (y := zI ((sz : Nat) : Int)) h33 ?_
    refine y_icmp_le (tgt := 30) C (a := (((swF k) + 8 : Nat) : Int)) (b := ((sz : Nat) : Int)) dX12_switchSpan_25 (by decide) (by omega) (fun h25 => ?_) (fun h25 => ?_)
    · refine lv_iload_n C.1 C.2.1 dX12_switchSpan_30 rfl (lv_at hl 3 rfl) ?_
      refine lv_sipush (v := zI 170) C.1 C.2.1 dX12_switchSpan_31 (by decide) ?_
      refine y_icmp_ne (tgt := 92) C (a := ((b : Nat) : Int)) (b := 170) dX12_switchSpan_34 (by decide) (by omega) (fun h34 => ?_) (fun h34 => ?_)
      · refine lv_aload_n C.1 C.2.1 dX12_switchSpan_92 rfl (lv_at hl 1 rfl) ?_
        refine lv_iload_n C.1 C.2.1 dX12_switchSpan_93 rfl (lv_at hl 0 rfl) ?_
        refine lv_iconst (v := zI 4) C.1 C.2.1 dX12_switchSpan_94 (by decide) ?_
        refine y_iaddN C (a := swF k) (b := 4) dX12_switchSpan_95 ?_
        refine z_readV C (As := [zN ((swF k) + 4)]) (rest := []) (c_X12_codeFour l Z hM hB h32 ((swF k) + 4) rfl (by omega)) hM.1 rfl ⟨⟨zw_32_23, zw_1_5, zw_32_20⟩, zd_X12_codeFour⟩ zw_32_21 zw_32_22 ⟨Nat.le_of_ble_eq_true rfl, Nat.le_of_ble_eq_true rfl⟩ ⟨rfl, rfl⟩ rfl hl.1 rfl (Nat.le_of_ble_eq_true rfl) dX12_switchSpan_96 ⟨Nat.zero_le _, Nat.zero_le _⟩ hS (fun locs hS => ?_)
        have := S4_rg hB.1 (ca + ((swF k) + 4))
        refine lv_istore (lv' := [(4, zV (S4 F (ca + ((swF k) + 4)))), (3, zN (swF k)), (0, .ref o), (1, zN k), (2, zN b)]) C.1 C.2.1 dX12_switchSpan_99 hl (by decide) rfl (fun ls hl => ?_)
        refine lv_iload C.1 C.2.1 dX12_switchSpan_101 (lv_at hl 0 rfl) ?_
        refine y_if_lt (tgt := 131) C (a := S4 F (ca + ((swF k) + 4))) dX12_switchSpan_103 (by decide) (by omega) (fun h103 => ?_) (fun h103 => ?_)
        · refine lv_iconst (v := zI 0) C.1 C.2.1 dX12_switchSpan_131 (by decide) ?_
          exact hret _ _ _ _ (zI 0) hS ⟨congrArg (fun x : Int => some (zV x)) (by show (0 : Int) = spW F ca sz k b; unfold spW; rw [if_neg (by rw [if_neg (by omega)]; omega), if_neg (by omega)]; rw [if_pos (by omega)]), rfl⟩ rfl dX12_switchSpan_132
        · refine lv_iload C.1 C.2.1 dX12_switchSpan_106 (lv_at hl 0 rfl) ?_
          refine lv_sipush (v := zI 200) C.1 C.2.1 dX12_switchSpan_108 (by decide) ?_
          refine y_icmp_gt (tgt := 131) C (a := S4 F (ca + ((swF k) + 4))) (b := 200) dX12_switchSpan_111 (by decide) (by omega) (fun h111 => ?_) (fun h111 => ?_)
          · refine lv_iconst (v := zI 0) C.1 C.2.1 dX12_switchSpan_131 (by decide) ?_
            exact hret _ _ _ _ (zI 0) hS ⟨congrArg (fun x : Int => some (zV x)) (by show (0 : Int) = spW F ca sz k b; unfold spW; rw [if_neg (by rw [if_neg (by omega)]; omega), if_neg (by omega)]; rw [if_pos (by omega)]), rfl⟩ rfl dX12_switchSpan_132
          · refine lv_iload_n C.1 C.2.1 dX12_switchSpan_114 rfl (lv_at hl 1 rfl) ?_
            refine lv_bipush (v := zI 8) C.1 C.2.1 dX12_switchSpan_115 (by decide) ?_
            refine y_iaddN C (a := swF k) (b := 8) dX12_switchSpan_117 ?_
            refine lv_bipush (v := zI 8) C.1 C.2.1 dX12_switchSpan_118 (by decide) ?_
            refine lv_iload C.1 C.2.1 dX12_switchSpan_120 (lv_at hl 0 rfl) ?_
            refine y_imul C (a := 8) (b := S4 F (ca + ((swF k) + 4))) dX12_switchSpan_122 ?_
            refine y_iadd C (a := (((swF k) + 8 : Nat) : Int)) (b := 8 * (S4 F (ca + ((swF k) + 4)))) dX12_switchSpan_123 ?_
            refine lv_aload_n C.1 C.2.1 dX12_switchSpan_124 rfl (lv_at hl 2 rfl) ?_
            refine m_get C hM 33 (v := .int (σ.1 33)) (by decide) zw_31_18 rfl rfl dX12_switchSpan_125 ?_
            refine z_re (y := zI ((sz : Nat) : Int)) h33 ?_
            refine y_icmp_le (tgt := 133) C (a := (((swF k) + 8 : Nat) : Int) + (8 * (S4 F (ca + ((swF k) + 4))))) (b := ((sz : Nat) : Int)) dX12_switchSpan_128 (by decide) (by omega) (fun h128 => ?_) (fun h128 => ?_)
            · obtain ⟨mn, hmn⟩ : ∃ mn : Nat, S4 F (ca + (swF k + 4)) = (mn : Int) := Int.eq_ofNat_of_zero_le (by omega)
              have hl : lv_has ls 6 [(4, zV ((mn : Nat) : Int)), (3, zN (swF k)), (0, .ref o), (1, zN k), (2, zN b)] := by rw [← hmn]; exact hl
              refine lv_iconst (v := zI 1) C.1 C.2.1 dX12_switchSpan_133 (by decide) ?_
              refine lv_istore (lv' := [(5, zN 1), (4, zN mn), (3, zN (swF k)), (0, .ref o), (1, zN k), (2, zN b)]) C.1 C.2.1 dX12_switchSpan_134 hl (by decide) rfl (fun ls hl => ?_)
              have loop : ∀ (fu : Nat) (j : Nat) (ls : Array Slot) (locs : List Loc), va_S (fun _ => False) s.heap H locs → (j + fu = mn + 2 ∧ 1 ≤ j ∧ (j ≤ mn ∨ j = 1)) → (luOk F ca (swF k) (mn - j) j = luOk F ca (swF k) (mn - 1) 1) → lv_has ls 6 [(5, zN j), (4, zN mn), (3, zN (swF k)), (0, .ref o), (1, zN k), (2, zN b)] → W p l e (rmk 5) s m args below meth c H locs 0 0 Q (F0 m 136 ls []) := by
                intro fu
                induction fu with
                | zero =>
                  intro j ls locs hS hj hx hl
                  omega
                | succ fu ih_loop =>
                  intro j ls locs hS hj hx hl
                  refine lv_iload C.1 C.2.1 dX12_switchSpan_136 (lv_at hl 0 rfl) ?_
                  refine lv_iload C.1 C.2.1 dX12_switchSpan_138 (lv_at hl 1 rfl) ?_
                  refine y_icmp_ge (tgt := 179) C (a := ((j : Nat) : Int)) (b := ((mn : Nat) : Int)) dX12_switchSpan_140 (by decide) (by omega) (fun h140 => ?_) (fun h140 => ?_)
                  · refine lv_iload_n C.1 C.2.1 dX12_switchSpan_179 rfl (lv_at hl 2 rfl) ?_
                    refine lv_bipush (v := zI 8) C.1 C.2.1 dX12_switchSpan_180 (by decide) ?_
                    refine y_iaddN C (a := swF k) (b := 8) dX12_switchSpan_182 ?_
                    refine lv_bipush (v := zI 8) C.1 C.2.1 dX12_switchSpan_183 (by decide) ?_
                    refine lv_iload C.1 C.2.1 dX12_switchSpan_185 (lv_at hl 1 rfl) ?_
                    refine y_imulN C (a := 8) (b := mn) dX12_switchSpan_187 ?_
                    refine y_iaddN C (a := (swF k) + 8) (b := 8 * mn) dX12_switchSpan_188 ?_
                    refine lv_iload_n C.1 C.2.1 dX12_switchSpan_189 rfl (lv_at hl 4 rfl) ?_
                    refine y_isub C (a := ((((swF k) + 8) + (8 * mn) : Nat) : Int)) (b := ((k : Nat) : Int)) dX12_switchSpan_190 ?_
                    exact hret _ _ _ _ (zI (((((swF k) + 8) + (8 * mn) : Nat) : Int) - ((k : Nat) : Int))) hS ⟨congrArg (fun x : Int => some (zV x)) (by show (((((swF k) + 8) + (8 * mn) : Nat) : Int) - ((k : Nat) : Int) : Int) = spW F ca sz k b; unfold spW; rw [if_neg (by rw [if_neg (by omega)]; omega), if_neg (by omega)]; rw [if_neg (by omega), if_pos (by rw [hmn, Int.toNat_natCast, ← hx, show mn - j = 0 by omega]; rfl)]; omega), rfl⟩ rfl dX12_switchSpan_191
                  · have hu : mn - j = (mn - j - 1) + 1 := by omega
                    refine lv_aload_n C.1 C.2.1 dX12_switchSpan_143 rfl (lv_at hl 3 rfl) ?_
                    refine lv_iload_n C.1 C.2.1 dX12_switchSpan_144 rfl (lv_at hl 2 rfl) ?_
                    refine lv_bipush (v := zI 8) C.1 C.2.1 dX12_switchSpan_145 (by decide) ?_
                    refine y_iaddN C (a := swF k) (b := 8) dX12_switchSpan_147 ?_
                    refine lv_bipush (v := zI 8) C.1 C.2.1 dX12_switchSpan_148 (by decide) ?_
                    refine lv_iload C.1 C.2.1 dX12_switchSpan_150 (lv_at hl 0 rfl) ?_
                    refine y_imulN C (a := 8) (b := j) dX12_switchSpan_152 ?_
                    refine y_iaddN C (a := (swF k) + 8) (b := 8 * j) dX12_switchSpan_153 ?_
                    refine z_readV C (As := [zN (((swF k) + 8) + (8 * j))]) (rest := []) (c_X12_codeFour l Z hM hB h32 (((swF k) + 8) + (8 * j)) rfl (by omega)) hM.1 rfl ⟨⟨zw_32_23, zw_1_5, zw_32_20⟩, zd_X12_codeFour⟩ zw_32_21 zw_32_22 ⟨Nat.le_of_ble_eq_true rfl, Nat.le_of_ble_eq_true rfl⟩ ⟨rfl, rfl⟩ rfl hl.1 rfl (Nat.le_of_ble_eq_true rfl) dX12_switchSpan_154 ⟨Nat.zero_le _, Nat.zero_le _⟩ hS (fun locs hS => ?_)
                    have := S4_rg hB.1 (ca + (((swF k) + 8) + (8 * j)))
                    refine lv_aload_n C.1 C.2.1 dX12_switchSpan_157 rfl (lv_at hl 3 rfl) ?_
                    refine lv_iload_n C.1 C.2.1 dX12_switchSpan_158 rfl (lv_at hl 2 rfl) ?_
                    refine lv_bipush (v := zI 8) C.1 C.2.1 dX12_switchSpan_159 (by decide) ?_
                    refine lv_iload C.1 C.2.1 dX12_switchSpan_161 (lv_at hl 0 rfl) ?_
                    refine y_imulN C (a := 8) (b := j) dX12_switchSpan_163 ?_
                    refine y_iaddN C (a := swF k) (b := 8 * j) dX12_switchSpan_164 ?_
                    refine z_readV C (As := [zN ((swF k) + (8 * j))]) (rest := [zV (S4 F (ca + (((swF k) + 8) + (8 * j))))]) (c_X12_codeFour l Z hM hB h32 ((swF k) + (8 * j)) rfl (by omega)) hM.1 rfl ⟨⟨zw_32_23, zw_1_5, zw_32_20⟩, zd_X12_codeFour⟩ zw_32_21 zw_32_22 ⟨Nat.le_of_ble_eq_true rfl, Nat.le_of_ble_eq_true rfl⟩ ⟨rfl, rfl⟩ rfl hl.1 rfl (Nat.le_of_ble_eq_true rfl) dX12_switchSpan_165 ⟨Nat.zero_le _, Nat.zero_le _⟩ hS (fun locs hS => ?_)
                    have := S4_rg hB.1 (ca + ((swF k) + (8 * j)))
                    refine y_icmp_gt (tgt := 173) C (a := S4 F (ca + (((swF k) + 8) + (8 * j)))) (b := S4 F (ca + ((swF k) + (8 * j)))) dX12_switchSpan_168 (by decide) (by omega) (fun h168 => ?_) (fun h168 => ?_)
                    · refine lv_iinc (v := zI ((j + 1 : Nat) : Int)) (lv' := [(5, zN (j + 1)), (4, zN mn), (3, zN (swF k)), (0, .ref o), (1, zN k), (2, zN b)]) C.1 C.2.1 dX12_switchSpan_173 hl (k := 0) rfl (zI_add _ _) (by decide) rfl (fun ls hl => ?_)
                      refine lv_goto (tgt := 136) C.1 C.2.1 dX12_switchSpan_176 (by decide) ?_
                      exact ih_loop (j + 1) ls _ hS (by omega) (by rw [← hx, hu, luOk_s (by omega), show mn - (j + 1) = mn - j - 1 by omega]) hl
                    · refine lv_iconst (v := zI 0) C.1 C.2.1 dX12_switchSpan_171 (by decide) ?_
                      exact hret _ _ _ _ (zI 0) hS ⟨congrArg (fun x : Int => some (zV x)) (by show (0 : Int) = spW F ca sz k b; unfold spW; rw [if_neg (by rw [if_neg (by omega)]; omega), if_neg (by omega)]; rw [if_neg (by omega), if_neg (by rw [hmn, Int.toNat_natCast, ← hx, hu, luOk_f (by omega)]; decide)]), rfl⟩ rfl dX12_switchSpan_172
              exact loop (mn + 1) 1 ls _ hS (by omega) rfl hl
            · refine lv_iconst (v := zI 0) C.1 C.2.1 dX12_switchSpan_131 (by decide) ?_
              exact hret _ _ _ _ (zI 0) hS ⟨congrArg (fun x : Int => some (zV x)) (by show (0 : Int) = spW F ca sz k b; unfold spW; rw [if_neg (by rw [if_neg (by omega)]; omega), if_neg (by omega)]; rw [if_pos (by omega)]), rfl⟩ rfl dX12_switchSpan_132
      · exact False.elim (by omega)
    · refine lv_iconst (v := zI 0) C.1 C.2.1 dX12_switchSpan_28 (by decide) ?_
      exact hret _ _ _ _ (zI 0) hS ⟨congrArg (fun x : Int => some (zV x)) (by show (0 : Int) = spW F ca sz k b; unfold spW; rw [if_pos (by rw [if_neg (by omega)]; omega)]), rfl⟩ rfl dX12_switchSpan_29
  · refine lv_bipush (v := zI 12) C.1 C.2.1 dX12_switchSpan_13 (by decide) ?_
    refine lv_goto (tgt := 20) C.1 C.2.1 dX12_switchSpan_15 (by decide) ?_
    refine y_iaddN C (a := swF k) (b := 12) dX12_switchSpan_20 ?_
    refine lv_aload_n C.1 C.2.1 dX12_switchSpan_21 rfl (lv_at hl 1 rfl) ?_
    refine m_get C hM 33 (v := .int (σ.1 33)) (by decide) zw_31_18 rfl rfl dX12_switchSpan_22 ?_
    refine z_re (y := zI ((sz : Nat) : Int)) h33 ?_
    refine y_icmp_le (tgt := 30) C (a := (((swF k) + 12 : Nat) : Int)) (b := ((sz : Nat) : Int)) dX12_switchSpan_25 (by decide) (by omega) (fun h25 => ?_) (fun h25 => ?_)
    · refine lv_iload_n C.1 C.2.1 dX12_switchSpan_30 rfl (lv_at hl 3 rfl) ?_
      refine lv_sipush (v := zI 170) C.1 C.2.1 dX12_switchSpan_31 (by decide) ?_
      refine y_icmp_ne (tgt := 92) C (a := ((b : Nat) : Int)) (b := 170) dX12_switchSpan_34 (by decide) (by omega) (fun h34 => ?_) (fun h34 => ?_)
      · exact False.elim (by omega)
      · refine lv_aload_n C.1 C.2.1 dX12_switchSpan_37 rfl (lv_at hl 1 rfl) ?_
        refine lv_iload_n C.1 C.2.1 dX12_switchSpan_38 rfl (lv_at hl 0 rfl) ?_
        refine lv_bipush (v := zI 8) C.1 C.2.1 dX12_switchSpan_39 (by decide) ?_
        refine y_iaddN C (a := swF k) (b := 8) dX12_switchSpan_41 ?_
        refine z_readV C (As := [zN ((swF k) + 8)]) (rest := []) (c_X12_codeFour l Z hM hB h32 ((swF k) + 8) rfl (by omega)) hM.1 rfl ⟨⟨zw_32_23, zw_1_5, zw_32_20⟩, zd_X12_codeFour⟩ zw_32_21 zw_32_22 ⟨Nat.le_of_ble_eq_true rfl, Nat.le_of_ble_eq_true rfl⟩ ⟨rfl, rfl⟩ rfl hl.1 rfl (Nat.le_of_ble_eq_true rfl) dX12_switchSpan_42 ⟨Nat.zero_le _, Nat.zero_le _⟩ hS (fun locs hS => ?_)
        have := S4_rg hB.1 (ca + ((swF k) + 8))
        refine y_i2l C (a := S4 F (ca + ((swF k) + 8))) (by omega) dX12_switchSpan_45 ?_
        refine lv_aload_n C.1 C.2.1 dX12_switchSpan_46 rfl (lv_at hl 1 rfl) ?_
        refine lv_iload_n C.1 C.2.1 dX12_switchSpan_47 rfl (lv_at hl 0 rfl) ?_
        refine lv_iconst (v := zI 4) C.1 C.2.1 dX12_switchSpan_48 (by decide) ?_
        refine y_iaddN C (a := swF k) (b := 4) dX12_switchSpan_49 ?_
        refine z_readV C (As := [zN ((swF k) + 4)]) (rest := [.long (zL (S4 F (ca + ((swF k) + 8))))]) (c_X12_codeFour l Z hM hB h32 ((swF k) + 4) rfl (by omega)) hM.1 rfl ⟨⟨zw_32_23, zw_1_5, zw_32_20⟩, zd_X12_codeFour⟩ zw_32_21 zw_32_22 ⟨Nat.le_of_ble_eq_true rfl, Nat.le_of_ble_eq_true rfl⟩ ⟨rfl, rfl⟩ rfl hl.1 rfl (Nat.le_of_ble_eq_true rfl) dX12_switchSpan_50 ⟨Nat.zero_le _, Nat.zero_le _⟩ hS (fun locs hS => ?_)
        have := S4_rg hB.1 (ca + ((swF k) + 4))
        refine y_i2l C (a := S4 F (ca + ((swF k) + 4))) (by omega) dX12_switchSpan_53 ?_
        refine y_lsub C (a := S4 F (ca + ((swF k) + 8))) (b := S4 F (ca + ((swF k) + 4))) dX12_switchSpan_54 ?_
        refine lv_lstore (lv' := [(4, .long (zL ((S4 F (ca + ((swF k) + 8))) - (S4 F (ca + ((swF k) + 4)))))), (3, zN (swF k)), (0, .ref o), (1, zN k), (2, zN b)]) C.1 C.2.1 dX12_switchSpan_55 hl (by decide) rfl (fun ls hl => ?_)
        refine lv_lload C.1 C.2.1 dX12_switchSpan_57 (lv_at hl 0 rfl) ?_
        refine lv_lconst (v := zL 0) C.1 C.2.1 dX12_switchSpan_59 (by decide) ?_
        refine y_lif_lt (tgt := 73) C (a := (S4 F (ca + ((swF k) + 8))) - (S4 F (ca + ((swF k) + 4)))) (b := 0) dX12_switchSpan_60 dX12_switchSpan_61 (by decide) (by omega) (fun h60 => ?_) (fun h60 => ?_)
        · refine lv_iconst (v := zI 0) C.1 C.2.1 dX12_switchSpan_73 (by decide) ?_
          refine lv_goto (tgt := 91) C.1 C.2.1 dX12_switchSpan_74 (by decide) ?_
          exact hret _ _ _ _ (zI 0) hS ⟨congrArg (fun x : Int => some (zV x)) (by show (0 : Int) = spW F ca sz k b; unfold spW; rw [if_neg (by rw [if_pos (by omega)]; omega), if_pos (by omega)]; rw [if_pos (by omega)]), rfl⟩ rfl dX12_switchSpan_91
        · refine lv_lload C.1 C.2.1 dX12_switchSpan_64 (lv_at hl 0 rfl) ?_
          refine lv_ldc2 (v := zL 200) C.1 C.2.1 C.2.2.2.1 (C.2.2.2.2.1 _ zw_32_16) dX12_switchSpan_66 ?_
          refine y_lif_le (tgt := 77) C (a := (S4 F (ca + ((swF k) + 8))) - (S4 F (ca + ((swF k) + 4)))) (b := 200) dX12_switchSpan_69 dX12_switchSpan_70 (by decide) (by omega) (fun h69 => ?_) (fun h69 => ?_)
          · refine lv_iload_n C.1 C.2.1 dX12_switchSpan_77 rfl (lv_at hl 1 rfl) ?_
            refine lv_bipush (v := zI 12) C.1 C.2.1 dX12_switchSpan_78 (by decide) ?_
            refine y_iaddN C (a := swF k) (b := 12) dX12_switchSpan_80 ?_
            refine lv_iconst (v := zI 4) C.1 C.2.1 dX12_switchSpan_81 (by decide) ?_
            refine lv_lload C.1 C.2.1 dX12_switchSpan_82 (lv_at hl 0 rfl) ?_
            refine y_l2i C (a := (S4 F (ca + ((swF k) + 8))) - (S4 F (ca + ((swF k) + 4)))) dX12_switchSpan_84 ?_
            refine lv_iconst (v := zI 1) C.1 C.2.1 dX12_switchSpan_85 (by decide) ?_
            refine y_iadd C (a := (S4 F (ca + ((swF k) + 8))) - (S4 F (ca + ((swF k) + 4)))) (b := 1) dX12_switchSpan_86 ?_
            refine y_imul C (a := 4) (b := ((S4 F (ca + ((swF k) + 8))) - (S4 F (ca + ((swF k) + 4)))) + 1) dX12_switchSpan_87 ?_
            refine y_iadd C (a := (((swF k) + 12 : Nat) : Int)) (b := 4 * (((S4 F (ca + ((swF k) + 8))) - (S4 F (ca + ((swF k) + 4)))) + 1)) dX12_switchSpan_88 ?_
            refine lv_iload_n C.1 C.2.1 dX12_switchSpan_89 rfl (lv_at hl 3 rfl) ?_
            refine y_isub C (a := (((swF k) + 12 : Nat) : Int) + (4 * (((S4 F (ca + ((swF k) + 8))) - (S4 F (ca + ((swF k) + 4)))) + 1))) (b := ((k : Nat) : Int)) dX12_switchSpan_90 ?_
            exact hret _ _ _ _ (zI (((((swF k) + 12 : Nat) : Int) + (4 * (((S4 F (ca + ((swF k) + 8))) - (S4 F (ca + ((swF k) + 4)))) + 1))) - ((k : Nat) : Int))) hS ⟨congrArg (fun x : Int => some (zV x)) (by show (((((swF k) + 12 : Nat) : Int) + (4 * (((S4 F (ca + ((swF k) + 8))) - (S4 F (ca + ((swF k) + 4)))) + 1))) - ((k : Nat) : Int) : Int) = spW F ca sz k b; unfold spW; rw [if_neg (by rw [if_pos (by omega)]; omega), if_pos (by omega)]; rw [if_neg (by omega)]; omega), rfl⟩ rfl dX12_switchSpan_91
          · refine lv_iconst (v := zI 0) C.1 C.2.1 dX12_switchSpan_73 (by decide) ?_
            refine lv_goto (tgt := 91) C.1 C.2.1 dX12_switchSpan_74 (by decide) ?_
            exact hret _ _ _ _ (zI 0) hS ⟨congrArg (fun x : Int => some (zV x)) (by show (0 : Int) = spW F ca sz k b; unfold spW; rw [if_neg (by rw [if_pos (by omega)]; omega), if_pos (by omega)]; rw [if_pos (by omega)]), rfl⟩ rfl dX12_switchSpan_91
    · refine lv_iconst (v := zI 0) C.1 C.2.1 dX12_switchSpan_28 (by decide) ?_
      exact hret _ _ _ _ (zI 0) hS ⟨congrArg (fun x : Int => some (zV x)) (by show (0 : Int) = spW F ca sz k b; unfold spW; rw [if_pos (by rw [if_pos (by omega)]; omega)]), rfl⟩ rfl dX12_switchSpan_29

set_option maxHeartbeats 4000000 in
set_option maxRecDepth 20000 in
theorem c_X12_span (l : Launch) (Z : zT) {H : Heap} {o : Nat} {ad : Nat → Nat} {σ : mS} (hM : isM Z H o ad σ) {F : Nat → Nat} {n : Nat} (hB : mSrc σ F n) {ca sz : Nat} (h32 : σ.1 32 = zI (ca : Int)) (h33 : σ.1 33 = zI (sz : Int)) (hcs : ca + sz ≤ n) (hsz : sz ≤ 1200) {t : Int} (k : Nat) (ht : t = (k : Int)) (hk : k < sz) : zP l Z yX12_span cX12_span 5 (some .int) (rmk 6) [.ref o, zV t] H (zV (spR F ca sz k)) := by
  subst ht
  have hn := hB.2.2.2
  refine zM.introI (own := RX12) ⟨by decide, rfl⟩ (Nat.le_of_ble_eq_true rfl) ?_
  intro p e s m args below meth c Q ls hH C hl hret
  have hS : va_S (fun _ => False) s.heap H [] := by rw [hH]; exact va_S.rf
  have hl : lv_has ls 5 [(0, .ref o), (1, zN k)] := hl
  refine lv_aload_n C.1 C.2.1 dX12_span_0 rfl (lv_at hl 0 rfl) ?_
  refine lv_iload_n C.1 C.2.1 dX12_span_1 rfl (lv_at hl 1 rfl) ?_
  refine z_readV C (As := [zN k]) (rest := []) (c_X12_codeOctet l Z hM hB h32 k rfl (by omega)) hM.1 rfl ⟨⟨zw_32_8, zw_1_5, zw_32_5⟩, zd_X12_codeOctet⟩ zw_32_6 zw_32_7 ⟨Nat.le_of_ble_eq_true rfl, Nat.le_of_ble_eq_true rfl⟩ ⟨rfl, rfl⟩ rfl hl.1 rfl (Nat.le_of_ble_eq_true rfl) dX12_span_2 ⟨Nat.zero_le _, Nat.zero_le _⟩ hS (fun locs hS => ?_)
  have := hB.1 (ca + k)
  refine lv_istore_n (lv' := [(2, zN (F (ca + k))), (0, .ref o), (1, zN k)]) C.1 C.2.1 dX12_span_5 rfl hl (by decide) rfl (fun ls hl => ?_)
  refine lv_iload_n C.1 C.2.1 dX12_span_6 rfl (lv_at hl 0 rfl) ?_
  refine z_readS C (As := [zN (F (ca + k))]) (rest := []) (c_X12_spanOf l Z (F (ca + k)) rfl (by omega)) ⟨⟨zw_32_11, zw_1_5, zw_32_9⟩, zd_X12_spanOf⟩ zw_32_10 ⟨Nat.le_of_ble_eq_true rfl, Nat.le_of_ble_eq_true rfl⟩ ⟨rfl, rfl⟩ rfl hl.1 rfl (Nat.le_of_ble_eq_true rfl) dX12_span_7 ⟨Nat.zero_le _, Nat.zero_le _⟩ hS (fun locs hS => ?_)
  have hsr := spM_rg (F (ca + k))
  refine lv_istore_n (lv' := [(3, zV (spM (F (ca + k)))), (2, zN (F (ca + k))), (0, .ref o), (1, zN k)]) C.1 C.2.1 dX12_span_10 rfl hl (by decide) rfl (fun ls hl => ?_)
  have J101 : ∀ (ls : Array Slot) (locs : List Loc), va_S (fun _ => False) s.heap H locs → lv_has ls 5 [(3, zV (sp1 F ca sz k)), (2, zN (F (ca + k))), (0, .ref o), (1, zN k)] → W p l e (rmk 6) s m args below meth c H locs 0 0 Q (F0 m 101 ls []) := by
    intro ls locs hS hl
    have h1r := sp1_rg F ca sz k
    refine lv_iload_n C.1 C.2.1 dX12_span_101 rfl (lv_at hl 0 rfl) ?_
    refine lv_iconst (v := zI (-1)) C.1 C.2.1 dX12_span_102 (by decide) ?_
    refine y_icmp_ne (tgt := 113) C (a := sp1 F ca sz k) (b := -1) dX12_span_103 (by decide) (by omega) (fun h103 => ?_) (fun h103 => ?_)
    · refine lv_iload_n C.1 C.2.1 dX12_span_113 rfl (lv_at hl 0 rfl) ?_
      refine y_if_le (tgt := 127) C (a := sp1 F ca sz k) dX12_span_114 (by decide) (by omega) (fun h114 => ?_) (fun h114 => ?_)
      · refine lv_iconst (v := zI (-1)) C.1 C.2.1 dX12_span_127 (by decide) ?_
        exact hret _ _ _ _ (zI (-1)) hS ⟨congrArg (fun x : Int => some (zV x)) (by show (-1 : Int) = spR F ca sz k; have hx : spX F ca sz k = sp1 F ca sz k := (by unfold spX; exact if_neg (by omega)); unfold spR; exact (if_pos (by omega)).symm), rfl⟩ rfl dX12_span_128
      · refine lv_iload_n C.1 C.2.1 dX12_span_117 rfl (lv_at hl 3 rfl) ?_
        refine lv_iload_n C.1 C.2.1 dX12_span_118 rfl (lv_at hl 0 rfl) ?_
        refine y_iadd C (a := ((k : Nat) : Int)) (b := sp1 F ca sz k) dX12_span_119 ?_
        refine lv_aload_n C.1 C.2.1 dX12_span_120 rfl (lv_at hl 2 rfl) ?_
        refine m_get C hM 33 (v := .int (σ.1 33)) (by decide) zw_31_18 rfl rfl dX12_span_121 ?_
        refine z_re (y := zI ((sz : Nat) : Int)) h33 ?_
        refine y_icmp_le (tgt := 129) C (a := ((k : Nat) : Int) + (sp1 F ca sz k)) (b := ((sz : Nat) : Int)) dX12_span_124 (by decide) (by omega) (fun h124 => ?_) (fun h124 => ?_)
        · refine lv_iload_n C.1 C.2.1 dX12_span_129 rfl (lv_at hl 1 rfl) ?_
          refine lv_sipush (v := zI 188) C.1 C.2.1 dX12_span_130 (by decide) ?_
          refine y_icmp_ne (tgt := 152) C (a := ((F (ca + k) : Nat) : Int)) (b := 188) dX12_span_133 (by decide) (by omega) (fun h133 => ?_) (fun h133 => ?_)
          · refine lv_iload_n C.1 C.2.1 dX12_span_152 rfl (lv_at hl 0 rfl) ?_
            exact hret _ _ _ _ (zI (sp1 F ca sz k)) hS ⟨congrArg (fun x : Int => some (zV x)) (by show (sp1 F ca sz k : Int) = spR F ca sz k; have hx : spX F ca sz k = sp1 F ca sz k := (by unfold spX; exact if_neg (by omega)); unfold spR; rw [if_neg (by omega), if_neg (by omega)]; exact hx.symm), rfl⟩ rfl dX12_span_153
          · have hsm : spM (F (ca + k)) = 2 := by rw [show F (ca + k) = 188 by omega]; rfl
            have hs1 : sp1 F ca sz k = 2 := by unfold sp1; rw [if_neg (by omega), hsm]
            refine lv_aload_n C.1 C.2.1 dX12_span_136 rfl (lv_at hl 2 rfl) ?_
            refine lv_iload_n C.1 C.2.1 dX12_span_137 rfl (lv_at hl 3 rfl) ?_
            refine lv_iconst (v := zI 1) C.1 C.2.1 dX12_span_138 (by decide) ?_
            refine y_iaddN C (a := k) (b := 1) dX12_span_139 ?_
            refine z_readV C (As := [zN (k + 1)]) (rest := []) (c_X12_codeOctet l Z hM hB h32 (k + 1) rfl (by omega)) hM.1 rfl ⟨⟨zw_32_8, zw_1_5, zw_32_5⟩, zd_X12_codeOctet⟩ zw_32_6 zw_32_7 ⟨Nat.le_of_ble_eq_true rfl, Nat.le_of_ble_eq_true rfl⟩ ⟨rfl, rfl⟩ rfl hl.1 rfl (Nat.le_of_ble_eq_true rfl) dX12_span_140 ⟨Nat.zero_le _, Nat.zero_le _⟩ hS (fun locs hS => ?_)
            have := hB.1 (ca + (k + 1))
            refine lv_bipush (v := zI 10) C.1 C.2.1 dX12_span_143 (by decide) ?_
            refine y_icmp_eq (tgt := 152) C (a := ((F (ca + (k + 1)) : Nat) : Int)) (b := 10) dX12_span_145 (by decide) (by omega) (fun h145 => ?_) (fun h145 => ?_)
            · refine lv_iload_n C.1 C.2.1 dX12_span_152 rfl (lv_at hl 0 rfl) ?_
              exact hret _ _ _ _ (zI (sp1 F ca sz k)) hS ⟨congrArg (fun x : Int => some (zV x)) (by show (sp1 F ca sz k : Int) = spR F ca sz k; have hx : spX F ca sz k = sp1 F ca sz k := (by unfold spX; exact if_neg (by omega)); unfold spR; rw [if_neg (by omega), if_neg (by omega)]; exact hx.symm), rfl⟩ rfl dX12_span_153
            · refine lv_iconst (v := zI (-1)) C.1 C.2.1 dX12_span_148 (by decide) ?_
              refine lv_goto (tgt := 153) C.1 C.2.1 dX12_span_149 (by decide) ?_
              exact hret _ _ _ _ (zI (-1)) hS ⟨congrArg (fun x : Int => some (zV x)) (by show (-1 : Int) = spR F ca sz k; have hx : spX F ca sz k = sp1 F ca sz k := (by unfold spX; exact if_neg (by omega)); unfold spR; rw [if_neg (by omega), if_pos (by omega)]), rfl⟩ rfl dX12_span_153
        · refine lv_iconst (v := zI (-1)) C.1 C.2.1 dX12_span_127 (by decide) ?_
          exact hret _ _ _ _ (zI (-1)) hS ⟨congrArg (fun x : Int => some (zV x)) (by show (-1 : Int) = spR F ca sz k; have hx : spX F ca sz k = sp1 F ca sz k := (by unfold spX; exact if_neg (by omega)); unfold spR; exact (if_pos (by omega)).symm), rfl⟩ rfl dX12_span_128
    · refine lv_aload_n C.1 C.2.1 dX12_span_106 rfl (lv_at hl 2 rfl) ?_
      refine lv_iload_n C.1 C.2.1 dX12_span_107 rfl (lv_at hl 3 rfl) ?_
      refine lv_iload_n C.1 C.2.1 dX12_span_108 rfl (lv_at hl 1 rfl) ?_
      refine z_readV C (As := [zN k, zN (F (ca + k))]) (rest := []) (c_X12_switchSpan l Z hM hB h32 h33 hcs hsz k (F (ca + k)) rfl rfl (by omega) (by omega)) hM.1 rfl ⟨⟨zw_32_15, zw_1_5, zw_32_12⟩, zd_X12_switchSpan⟩ zw_32_13 zw_32_14 ⟨Nat.le_of_ble_eq_true rfl, Nat.le_of_ble_eq_true rfl⟩ ⟨rfl, rfl⟩ rfl hl.1 rfl (Nat.le_of_ble_eq_true rfl) dX12_span_109 ⟨Nat.zero_le _, Nat.zero_le _⟩ hS (fun locs hS => ?_)
      have hwr := spW_rg (F := F) (ca := ca) (b := F (ca + k)) hsz (show k ≤ 1200 by omega)
      refine lv_istore_n (lv' := [(3, zV (spW F ca sz k (F (ca + k)))), (2, zN (F (ca + k))), (0, .ref o), (1, zN k)]) C.1 C.2.1 dX12_span_112 rfl hl (by decide) rfl (fun ls hl => ?_)
      refine lv_iload_n C.1 C.2.1 dX12_span_113 rfl (lv_at hl 0 rfl) ?_
      refine y_if_le (tgt := 127) C (a := spW F ca sz k (F (ca + k))) dX12_span_114 (by decide) (by omega) (fun h114 => ?_) (fun h114 => ?_)
      · refine lv_iconst (v := zI (-1)) C.1 C.2.1 dX12_span_127 (by decide) ?_
        exact hret _ _ _ _ (zI (-1)) hS ⟨congrArg (fun x : Int => some (zV x)) (by show (-1 : Int) = spR F ca sz k; have hx : spX F ca sz k = spW F ca sz k (F (ca + k)) := (by unfold spX; exact if_pos (by omega)); unfold spR; exact (if_pos (by omega)).symm), rfl⟩ rfl dX12_span_128
      · refine lv_iload_n C.1 C.2.1 dX12_span_117 rfl (lv_at hl 3 rfl) ?_
        refine lv_iload_n C.1 C.2.1 dX12_span_118 rfl (lv_at hl 0 rfl) ?_
        refine y_iadd C (a := ((k : Nat) : Int)) (b := spW F ca sz k (F (ca + k))) dX12_span_119 ?_
        refine lv_aload_n C.1 C.2.1 dX12_span_120 rfl (lv_at hl 2 rfl) ?_
        refine m_get C hM 33 (v := .int (σ.1 33)) (by decide) zw_31_18 rfl rfl dX12_span_121 ?_
        refine z_re (y := zI ((sz : Nat) : Int)) h33 ?_
        refine y_icmp_le (tgt := 129) C (a := ((k : Nat) : Int) + (spW F ca sz k (F (ca + k)))) (b := ((sz : Nat) : Int)) dX12_span_124 (by decide) (by omega) (fun h124 => ?_) (fun h124 => ?_)
        · refine lv_iload_n C.1 C.2.1 dX12_span_129 rfl (lv_at hl 1 rfl) ?_
          refine lv_sipush (v := zI 188) C.1 C.2.1 dX12_span_130 (by decide) ?_
          refine y_icmp_ne (tgt := 152) C (a := ((F (ca + k) : Nat) : Int)) (b := 188) dX12_span_133 (by decide) (by omega) (fun h133 => ?_) (fun h133 => ?_)
          · refine lv_iload_n C.1 C.2.1 dX12_span_152 rfl (lv_at hl 0 rfl) ?_
            exact hret _ _ _ _ (zI (spW F ca sz k (F (ca + k)))) hS ⟨congrArg (fun x : Int => some (zV x)) (by show (spW F ca sz k (F (ca + k)) : Int) = spR F ca sz k; have hx : spX F ca sz k = spW F ca sz k (F (ca + k)) := (by unfold spX; exact if_pos (by omega)); unfold spR; rw [if_neg (by omega), if_neg (by omega)]; exact hx.symm), rfl⟩ rfl dX12_span_153
          · have hsm : spM (F (ca + k)) = 2 := by rw [show F (ca + k) = 188 by omega]; rfl
            have hs1 : sp1 F ca sz k = 2 := by unfold sp1; rw [if_neg (by omega), hsm]
            refine lv_aload_n C.1 C.2.1 dX12_span_136 rfl (lv_at hl 2 rfl) ?_
            refine lv_iload_n C.1 C.2.1 dX12_span_137 rfl (lv_at hl 3 rfl) ?_
            refine lv_iconst (v := zI 1) C.1 C.2.1 dX12_span_138 (by decide) ?_
            refine y_iaddN C (a := k) (b := 1) dX12_span_139 ?_
            refine z_readV C (As := [zN (k + 1)]) (rest := []) (c_X12_codeOctet l Z hM hB h32 (k + 1) rfl (by omega)) hM.1 rfl ⟨⟨zw_32_8, zw_1_5, zw_32_5⟩, zd_X12_codeOctet⟩ zw_32_6 zw_32_7 ⟨Nat.le_of_ble_eq_true rfl, Nat.le_of_ble_eq_true rfl⟩ ⟨rfl, rfl⟩ rfl hl.1 rfl (Nat.le_of_ble_eq_true rfl) dX12_span_140 ⟨Nat.zero_le _, Nat.zero_le _⟩ hS (fun locs hS => ?_)
            have := hB.1 (ca + (k + 1))
            refine lv_bipush (v := zI 10) C.1 C.2.1 dX12_span_143 (by decide) ?_
            refine y_icmp_eq (tgt := 152) C (a := ((F (ca + (k + 1)) : Nat) : Int)) (b := 10) dX12_span_145 (by decide) (by omega) (fun h145 => ?_) (fun h145 => ?_)
            · refine lv_iload_n C.1 C.2.1 dX12_span_152 rfl (lv_at hl 0 rfl) ?_
              exact hret _ _ _ _ (zI (spW F ca sz k (F (ca + k)))) hS ⟨congrArg (fun x : Int => some (zV x)) (by show (spW F ca sz k (F (ca + k)) : Int) = spR F ca sz k; have hx : spX F ca sz k = spW F ca sz k (F (ca + k)) := (by unfold spX; exact if_pos (by omega)); unfold spR; rw [if_neg (by omega), if_neg (by omega)]; exact hx.symm), rfl⟩ rfl dX12_span_153
            · refine lv_iconst (v := zI (-1)) C.1 C.2.1 dX12_span_148 (by decide) ?_
              refine lv_goto (tgt := 153) C.1 C.2.1 dX12_span_149 (by decide) ?_
              exact hret _ _ _ _ (zI (-1)) hS ⟨congrArg (fun x : Int => some (zV x)) (by show (-1 : Int) = spR F ca sz k; have hx : spX F ca sz k = spW F ca sz k (F (ca + k)) := (by unfold spX; exact if_pos (by omega)); unfold spR; rw [if_neg (by omega), if_pos (by omega)]), rfl⟩ rfl dX12_span_153
        · refine lv_iconst (v := zI (-1)) C.1 C.2.1 dX12_span_127 (by decide) ?_
          exact hret _ _ _ _ (zI (-1)) hS ⟨congrArg (fun x : Int => some (zV x)) (by show (-1 : Int) = spR F ca sz k; have hx : spX F ca sz k = spW F ca sz k (F (ca + k)) := (by unfold spX; exact if_pos (by omega)); unfold spR; exact (if_pos (by omega)).symm), rfl⟩ rfl dX12_span_128
  refine lv_iload_n C.1 C.2.1 dX12_span_11 rfl (lv_at hl 0 rfl) ?_
  refine lv_bipush (v := zI (-2)) C.1 C.2.1 dX12_span_12 (by decide) ?_
  refine y_icmp_ne (tgt := 101) C (a := spM (F (ca + k))) (b := -2) dX12_span_14 (by decide) (by omega) (fun h14 => ?_) (fun h14 => ?_)
  · have hl : lv_has ls 5 [(3, zV (sp1 F ca sz k)), (2, zN (F (ca + k))), (0, .ref o), (1, zN k)] := by rw [show (sp1 F ca sz k : Int) = spM (F (ca + k)) from if_neg (by omega)]; exact hl
    exact J101  ls _ hS hl
  · refine lv_iload_n C.1 C.2.1 dX12_span_17 rfl (lv_at hl 3 rfl) ?_
    refine lv_iconst (v := zI 1) C.1 C.2.1 dX12_span_18 (by decide) ?_
    refine y_iaddN C (a := k) (b := 1) dX12_span_19 ?_
    refine lv_aload_n C.1 C.2.1 dX12_span_20 rfl (lv_at hl 2 rfl) ?_
    refine m_get C hM 33 (v := .int (σ.1 33)) (by decide) zw_31_18 rfl rfl dX12_span_21 ?_
    refine z_re (y := zI ((sz : Nat) : Int)) h33 ?_
    refine y_icmp_ge (tgt := 37) C (a := ((k + 1 : Nat) : Int)) (b := ((sz : Nat) : Int)) dX12_span_24 (by decide) (by omega) (fun h24 => ?_) (fun h24 => ?_)
    · refine lv_iconst (v := zI 0) C.1 C.2.1 dX12_span_37 (by decide) ?_
      refine lv_istore (lv' := [(4, zN 0), (3, zV (spM (F (ca + k)))), (2, zN (F (ca + k))), (0, .ref o), (1, zN k)]) C.1 C.2.1 dX12_span_38 hl (by decide) rfl (fun ls hl => ?_)
      refine lv_iload C.1 C.2.1 dX12_span_40 (lv_at hl 0 rfl) ?_
      refine lv_sipush (v := zI 132) C.1 C.2.1 dX12_span_42 (by decide) ?_
      refine y_icmp_ne (tgt := 53) C (a := 0) (b := 132) dX12_span_45 (by decide) (by omega) (fun h45 => ?_) (fun h45 => ?_)
      · refine lv_iload C.1 C.2.1 dX12_span_53 (lv_at hl 0 rfl) ?_
        refine lv_bipush (v := zI 21) C.1 C.2.1 dX12_span_55 (by decide) ?_
        refine y_icmp_eq (tgt := 95) C (a := 0) (b := 21) dX12_span_57 (by decide) (by omega) (fun h57 => ?_) (fun h57 => ?_)
        · refine lv_iconst (v := zI 4) C.1 C.2.1 dX12_span_95 (by decide) ?_
          refine lv_goto (tgt := 100) C.1 C.2.1 dX12_span_96 (by decide) ?_
          refine lv_istore_n (lv' := [(3, zN 4), (4, zN 0), (2, zN (F (ca + k))), (0, .ref o), (1, zN k)]) C.1 C.2.1 dX12_span_100 rfl hl (by decide) rfl (fun ls hl => ?_)
          exact False.elim (by omega)
        · refine lv_iload C.1 C.2.1 dX12_span_60 (lv_at hl 0 rfl) ?_
          refine lv_bipush (v := zI 22) C.1 C.2.1 dX12_span_62 (by decide) ?_
          refine y_icmp_eq (tgt := 95) C (a := 0) (b := 22) dX12_span_64 (by decide) (by omega) (fun h64 => ?_) (fun h64 => ?_)
          · refine lv_iconst (v := zI 4) C.1 C.2.1 dX12_span_95 (by decide) ?_
            refine lv_goto (tgt := 100) C.1 C.2.1 dX12_span_96 (by decide) ?_
            refine lv_istore_n (lv' := [(3, zN 4), (4, zN 0), (2, zN (F (ca + k))), (0, .ref o), (1, zN k)]) C.1 C.2.1 dX12_span_100 rfl hl (by decide) rfl (fun ls hl => ?_)
            exact False.elim (by omega)
          · refine lv_iload C.1 C.2.1 dX12_span_67 (lv_at hl 0 rfl) ?_
            refine lv_bipush (v := zI 25) C.1 C.2.1 dX12_span_69 (by decide) ?_
            refine y_icmp_eq (tgt := 95) C (a := 0) (b := 25) dX12_span_71 (by decide) (by omega) (fun h71 => ?_) (fun h71 => ?_)
            · refine lv_iconst (v := zI 4) C.1 C.2.1 dX12_span_95 (by decide) ?_
              refine lv_goto (tgt := 100) C.1 C.2.1 dX12_span_96 (by decide) ?_
              refine lv_istore_n (lv' := [(3, zN 4), (4, zN 0), (2, zN (F (ca + k))), (0, .ref o), (1, zN k)]) C.1 C.2.1 dX12_span_100 rfl hl (by decide) rfl (fun ls hl => ?_)
              exact False.elim (by omega)
            · refine lv_iload C.1 C.2.1 dX12_span_74 (lv_at hl 0 rfl) ?_
              refine lv_bipush (v := zI 54) C.1 C.2.1 dX12_span_76 (by decide) ?_
              refine y_icmp_eq (tgt := 95) C (a := 0) (b := 54) dX12_span_78 (by decide) (by omega) (fun h78 => ?_) (fun h78 => ?_)
              · refine lv_iconst (v := zI 4) C.1 C.2.1 dX12_span_95 (by decide) ?_
                refine lv_goto (tgt := 100) C.1 C.2.1 dX12_span_96 (by decide) ?_
                refine lv_istore_n (lv' := [(3, zN 4), (4, zN 0), (2, zN (F (ca + k))), (0, .ref o), (1, zN k)]) C.1 C.2.1 dX12_span_100 rfl hl (by decide) rfl (fun ls hl => ?_)
                exact False.elim (by omega)
              · refine lv_iload C.1 C.2.1 dX12_span_81 (lv_at hl 0 rfl) ?_
                refine lv_bipush (v := zI 55) C.1 C.2.1 dX12_span_83 (by decide) ?_
                refine y_icmp_eq (tgt := 95) C (a := 0) (b := 55) dX12_span_85 (by decide) (by omega) (fun h85 => ?_) (fun h85 => ?_)
                · refine lv_iconst (v := zI 4) C.1 C.2.1 dX12_span_95 (by decide) ?_
                  refine lv_goto (tgt := 100) C.1 C.2.1 dX12_span_96 (by decide) ?_
                  refine lv_istore_n (lv' := [(3, zN 4), (4, zN 0), (2, zN (F (ca + k))), (0, .ref o), (1, zN k)]) C.1 C.2.1 dX12_span_100 rfl hl (by decide) rfl (fun ls hl => ?_)
                  exact False.elim (by omega)
                · refine lv_iload C.1 C.2.1 dX12_span_88 (lv_at hl 0 rfl) ?_
                  refine lv_bipush (v := zI 58) C.1 C.2.1 dX12_span_90 (by decide) ?_
                  refine y_icmp_ne (tgt := 99) C (a := 0) (b := 58) dX12_span_92 (by decide) (by omega) (fun h92 => ?_) (fun h92 => ?_)
                  · refine lv_iconst (v := zI 0) C.1 C.2.1 dX12_span_99 (by decide) ?_
                    refine lv_istore_n (lv' := [(3, zN 0), (4, zN 0), (2, zN (F (ca + k))), (0, .ref o), (1, zN k)]) C.1 C.2.1 dX12_span_100 rfl hl (by decide) rfl (fun ls hl => ?_)
                    have hl : lv_has ls 5 [(3, zV (sp1 F ca sz k)), (4, zN 0), (2, zN (F (ca + k))), (0, .ref o), (1, zN k)] := by rw [show (sp1 F ca sz k : Int) = 0 from by unfold sp1; rw [if_pos (by omega), if_neg (by omega)]]; exact hl
                    exact J101  ls _ hS (lv_sub hl [0, 2, 3, 4] rfl)
                  · refine lv_iconst (v := zI 4) C.1 C.2.1 dX12_span_95 (by decide) ?_
                    refine lv_goto (tgt := 100) C.1 C.2.1 dX12_span_96 (by decide) ?_
                    refine lv_istore_n (lv' := [(3, zN 4), (4, zN 0), (2, zN (F (ca + k))), (0, .ref o), (1, zN k)]) C.1 C.2.1 dX12_span_100 rfl hl (by decide) rfl (fun ls hl => ?_)
                    exact False.elim (by omega)
      · refine lv_bipush (v := zI 6) C.1 C.2.1 dX12_span_48 (by decide) ?_
        refine lv_goto (tgt := 100) C.1 C.2.1 dX12_span_50 (by decide) ?_
        refine lv_istore_n (lv' := [(3, zN 6), (4, zN 0), (2, zN (F (ca + k))), (0, .ref o), (1, zN k)]) C.1 C.2.1 dX12_span_100 rfl hl (by decide) rfl (fun ls hl => ?_)
        exact False.elim (by omega)
    · refine lv_aload_n C.1 C.2.1 dX12_span_27 rfl (lv_at hl 2 rfl) ?_
      refine lv_iload_n C.1 C.2.1 dX12_span_28 rfl (lv_at hl 3 rfl) ?_
      refine lv_iconst (v := zI 1) C.1 C.2.1 dX12_span_29 (by decide) ?_
      refine y_iaddN C (a := k) (b := 1) dX12_span_30 ?_
      refine z_readV C (As := [zN (k + 1)]) (rest := []) (c_X12_codeOctet l Z hM hB h32 (k + 1) rfl (by omega)) hM.1 rfl ⟨⟨zw_32_8, zw_1_5, zw_32_5⟩, zd_X12_codeOctet⟩ zw_32_6 zw_32_7 ⟨Nat.le_of_ble_eq_true rfl, Nat.le_of_ble_eq_true rfl⟩ ⟨rfl, rfl⟩ rfl hl.1 rfl (Nat.le_of_ble_eq_true rfl) dX12_span_31 ⟨Nat.zero_le _, Nat.zero_le _⟩ hS (fun locs hS => ?_)
      have := hB.1 (ca + (k + 1))
      refine lv_goto (tgt := 38) C.1 C.2.1 dX12_span_34 (by decide) ?_
      refine lv_istore (lv' := [(4, zN (F (ca + (k + 1)))), (3, zV (spM (F (ca + k)))), (2, zN (F (ca + k))), (0, .ref o), (1, zN k)]) C.1 C.2.1 dX12_span_38 hl (by decide) rfl (fun ls hl => ?_)
      refine lv_iload C.1 C.2.1 dX12_span_40 (lv_at hl 0 rfl) ?_
      refine lv_sipush (v := zI 132) C.1 C.2.1 dX12_span_42 (by decide) ?_
      refine y_icmp_ne (tgt := 53) C (a := ((F (ca + (k + 1)) : Nat) : Int)) (b := 132) dX12_span_45 (by decide) (by omega) (fun h45 => ?_) (fun h45 => ?_)
      · refine lv_iload C.1 C.2.1 dX12_span_53 (lv_at hl 0 rfl) ?_
        refine lv_bipush (v := zI 21) C.1 C.2.1 dX12_span_55 (by decide) ?_
        refine y_icmp_eq (tgt := 95) C (a := ((F (ca + (k + 1)) : Nat) : Int)) (b := 21) dX12_span_57 (by decide) (by omega) (fun h57 => ?_) (fun h57 => ?_)
        · refine lv_iconst (v := zI 4) C.1 C.2.1 dX12_span_95 (by decide) ?_
          refine lv_goto (tgt := 100) C.1 C.2.1 dX12_span_96 (by decide) ?_
          refine lv_istore_n (lv' := [(3, zN 4), (4, zN (F (ca + (k + 1)))), (2, zN (F (ca + k))), (0, .ref o), (1, zN k)]) C.1 C.2.1 dX12_span_100 rfl hl (by decide) rfl (fun ls hl => ?_)
          have hl : lv_has ls 5 [(3, zV (sp1 F ca sz k)), (4, zN (F (ca + (k + 1)))), (2, zN (F (ca + k))), (0, .ref o), (1, zN k)] := by rw [show (sp1 F ca sz k : Int) = 4 from by unfold sp1; rw [if_pos (by omega), if_pos (by omega)]; unfold wdN; (repeat' split) <;> omega]; exact hl
          exact J101  ls _ hS (lv_sub hl [0, 2, 3, 4] rfl)
        · refine lv_iload C.1 C.2.1 dX12_span_60 (lv_at hl 0 rfl) ?_
          refine lv_bipush (v := zI 22) C.1 C.2.1 dX12_span_62 (by decide) ?_
          refine y_icmp_eq (tgt := 95) C (a := ((F (ca + (k + 1)) : Nat) : Int)) (b := 22) dX12_span_64 (by decide) (by omega) (fun h64 => ?_) (fun h64 => ?_)
          · refine lv_iconst (v := zI 4) C.1 C.2.1 dX12_span_95 (by decide) ?_
            refine lv_goto (tgt := 100) C.1 C.2.1 dX12_span_96 (by decide) ?_
            refine lv_istore_n (lv' := [(3, zN 4), (4, zN (F (ca + (k + 1)))), (2, zN (F (ca + k))), (0, .ref o), (1, zN k)]) C.1 C.2.1 dX12_span_100 rfl hl (by decide) rfl (fun ls hl => ?_)
            have hl : lv_has ls 5 [(3, zV (sp1 F ca sz k)), (4, zN (F (ca + (k + 1)))), (2, zN (F (ca + k))), (0, .ref o), (1, zN k)] := by rw [show (sp1 F ca sz k : Int) = 4 from by unfold sp1; rw [if_pos (by omega), if_pos (by omega)]; unfold wdN; (repeat' split) <;> omega]; exact hl
            exact J101  ls _ hS (lv_sub hl [0, 2, 3, 4] rfl)
          · refine lv_iload C.1 C.2.1 dX12_span_67 (lv_at hl 0 rfl) ?_
            refine lv_bipush (v := zI 25) C.1 C.2.1 dX12_span_69 (by decide) ?_
            refine y_icmp_eq (tgt := 95) C (a := ((F (ca + (k + 1)) : Nat) : Int)) (b := 25) dX12_span_71 (by decide) (by omega) (fun h71 => ?_) (fun h71 => ?_)
            · refine lv_iconst (v := zI 4) C.1 C.2.1 dX12_span_95 (by decide) ?_
              refine lv_goto (tgt := 100) C.1 C.2.1 dX12_span_96 (by decide) ?_
              refine lv_istore_n (lv' := [(3, zN 4), (4, zN (F (ca + (k + 1)))), (2, zN (F (ca + k))), (0, .ref o), (1, zN k)]) C.1 C.2.1 dX12_span_100 rfl hl (by decide) rfl (fun ls hl => ?_)
              have hl : lv_has ls 5 [(3, zV (sp1 F ca sz k)), (4, zN (F (ca + (k + 1)))), (2, zN (F (ca + k))), (0, .ref o), (1, zN k)] := by rw [show (sp1 F ca sz k : Int) = 4 from by unfold sp1; rw [if_pos (by omega), if_pos (by omega)]; unfold wdN; (repeat' split) <;> omega]; exact hl
              exact J101  ls _ hS (lv_sub hl [0, 2, 3, 4] rfl)
            · refine lv_iload C.1 C.2.1 dX12_span_74 (lv_at hl 0 rfl) ?_
              refine lv_bipush (v := zI 54) C.1 C.2.1 dX12_span_76 (by decide) ?_
              refine y_icmp_eq (tgt := 95) C (a := ((F (ca + (k + 1)) : Nat) : Int)) (b := 54) dX12_span_78 (by decide) (by omega) (fun h78 => ?_) (fun h78 => ?_)
              · refine lv_iconst (v := zI 4) C.1 C.2.1 dX12_span_95 (by decide) ?_
                refine lv_goto (tgt := 100) C.1 C.2.1 dX12_span_96 (by decide) ?_
                refine lv_istore_n (lv' := [(3, zN 4), (4, zN (F (ca + (k + 1)))), (2, zN (F (ca + k))), (0, .ref o), (1, zN k)]) C.1 C.2.1 dX12_span_100 rfl hl (by decide) rfl (fun ls hl => ?_)
                have hl : lv_has ls 5 [(3, zV (sp1 F ca sz k)), (4, zN (F (ca + (k + 1)))), (2, zN (F (ca + k))), (0, .ref o), (1, zN k)] := by rw [show (sp1 F ca sz k : Int) = 4 from by unfold sp1; rw [if_pos (by omega), if_pos (by omega)]; unfold wdN; (repeat' split) <;> omega]; exact hl
                exact J101  ls _ hS (lv_sub hl [0, 2, 3, 4] rfl)
              · refine lv_iload C.1 C.2.1 dX12_span_81 (lv_at hl 0 rfl) ?_
                refine lv_bipush (v := zI 55) C.1 C.2.1 dX12_span_83 (by decide) ?_
                refine y_icmp_eq (tgt := 95) C (a := ((F (ca + (k + 1)) : Nat) : Int)) (b := 55) dX12_span_85 (by decide) (by omega) (fun h85 => ?_) (fun h85 => ?_)
                · refine lv_iconst (v := zI 4) C.1 C.2.1 dX12_span_95 (by decide) ?_
                  refine lv_goto (tgt := 100) C.1 C.2.1 dX12_span_96 (by decide) ?_
                  refine lv_istore_n (lv' := [(3, zN 4), (4, zN (F (ca + (k + 1)))), (2, zN (F (ca + k))), (0, .ref o), (1, zN k)]) C.1 C.2.1 dX12_span_100 rfl hl (by decide) rfl (fun ls hl => ?_)
                  have hl : lv_has ls 5 [(3, zV (sp1 F ca sz k)), (4, zN (F (ca + (k + 1)))), (2, zN (F (ca + k))), (0, .ref o), (1, zN k)] := by rw [show (sp1 F ca sz k : Int) = 4 from by unfold sp1; rw [if_pos (by omega), if_pos (by omega)]; unfold wdN; (repeat' split) <;> omega]; exact hl
                  exact J101  ls _ hS (lv_sub hl [0, 2, 3, 4] rfl)
                · refine lv_iload C.1 C.2.1 dX12_span_88 (lv_at hl 0 rfl) ?_
                  refine lv_bipush (v := zI 58) C.1 C.2.1 dX12_span_90 (by decide) ?_
                  refine y_icmp_ne (tgt := 99) C (a := ((F (ca + (k + 1)) : Nat) : Int)) (b := 58) dX12_span_92 (by decide) (by omega) (fun h92 => ?_) (fun h92 => ?_)
                  · refine lv_iconst (v := zI 0) C.1 C.2.1 dX12_span_99 (by decide) ?_
                    refine lv_istore_n (lv' := [(3, zN 0), (4, zN (F (ca + (k + 1)))), (2, zN (F (ca + k))), (0, .ref o), (1, zN k)]) C.1 C.2.1 dX12_span_100 rfl hl (by decide) rfl (fun ls hl => ?_)
                    have hl : lv_has ls 5 [(3, zV (sp1 F ca sz k)), (4, zN (F (ca + (k + 1)))), (2, zN (F (ca + k))), (0, .ref o), (1, zN k)] := by rw [show (sp1 F ca sz k : Int) = 0 from by unfold sp1; rw [if_pos (by omega), if_pos (by omega)]; unfold wdN; (repeat' split) <;> omega]; exact hl
                    exact J101  ls _ hS (lv_sub hl [0, 2, 3, 4] rfl)
                  · refine lv_iconst (v := zI 4) C.1 C.2.1 dX12_span_95 (by decide) ?_
                    refine lv_goto (tgt := 100) C.1 C.2.1 dX12_span_96 (by decide) ?_
                    refine lv_istore_n (lv' := [(3, zN 4), (4, zN (F (ca + (k + 1)))), (2, zN (F (ca + k))), (0, .ref o), (1, zN k)]) C.1 C.2.1 dX12_span_100 rfl hl (by decide) rfl (fun ls hl => ?_)
                    have hl : lv_has ls 5 [(3, zV (sp1 F ca sz k)), (4, zN (F (ca + (k + 1)))), (2, zN (F (ca + k))), (0, .ref o), (1, zN k)] := by rw [show (sp1 F ca sz k : Int) = 4 from by unfold sp1; rw [if_pos (by omega), if_pos (by omega)]; unfold wdN; (repeat' split) <;> omega]; exact hl
                    exact J101  ls _ hS (lv_sub hl [0, 2, 3, 4] rfl)
      · refine lv_bipush (v := zI 6) C.1 C.2.1 dX12_span_48 (by decide) ?_
        refine lv_goto (tgt := 100) C.1 C.2.1 dX12_span_50 (by decide) ?_
        refine lv_istore_n (lv' := [(3, zN 6), (4, zN (F (ca + (k + 1)))), (2, zN (F (ca + k))), (0, .ref o), (1, zN k)]) C.1 C.2.1 dX12_span_100 rfl hl (by decide) rfl (fun ls hl => ?_)
        have hl : lv_has ls 5 [(3, zV (sp1 F ca sz k)), (4, zN (F (ca + (k + 1)))), (2, zN (F (ca + k))), (0, .ref o), (1, zN k)] := by rw [show (sp1 F ca sz k : Int) = 6 from by unfold sp1; rw [if_pos (by omega), if_pos (by omega)]; unfold wdN; (repeat' split) <;> omega]; exact hl
        exact J101  ls _ hS (lv_sub hl [0, 2, 3, 4] rfl)

set_option maxHeartbeats 4000000 in
set_option maxRecDepth 20000 in
theorem c_X12_isStart (l : Launch) (Z : zT) {H : Heap} {o : Nat} {ad : Nat → Nat} {σ : mS} (hM : isM Z H o ad σ) {sz : Nat} (h33 : σ.1 33 = zI (sz : Int)) (hsz : sz ≤ 1200) {na : Nat → Int} (hna : ∀ j, j < sz → σ.2.1 34 j = zI (na j) ∧ -1 ≤ na j ∧ na j ≤ 1200) (t : Int) (ht : -2147483648 ≤ t ∧ t ≤ 2147483647) : zP l Z yX12_isStart cX12_isStart 2 (some .boolean) (rmk 1) [.ref o, zV t] H (zV (bI (decide (0 ≤ t ∧ t < (sz : Int) ∧ 0 ≤ na t.toNat)))) := by
  refine zM.introI (own := RX12) ⟨by decide, rfl⟩ (Nat.le_of_ble_eq_true rfl) ?_
  intro p e s m args below meth c Q ls hH C hl hret
  have hS : va_S (fun _ => False) s.heap H [] := by rw [hH]; exact va_S.rf
  have hl : lv_has ls 2 [(0, .ref o), (1, zV t)] := hl
  refine lv_iload_n C.1 C.2.1 dX12_isStart_0 rfl (lv_at hl 1 rfl) ?_
  refine y_if_lt (tgt := 25) C (a := t) dX12_isStart_1 (by decide) (by omega) (fun h1 => ?_) (fun h1 => ?_)
  · refine lv_iconst (v := zI 0) C.1 C.2.1 dX12_isStart_25 (by decide) ?_
    exact hret _ _ _ _ (zI 0) hS ⟨congrArg (fun x : Int => some (zV x)) (bI_0 (decide_eq_false (fun z => absurd (And.intro z.1 z.2.1) (by omega)))), rfl⟩ rfl dX12_isStart_26
  · refine lv_iload_n C.1 C.2.1 dX12_isStart_4 rfl (lv_at hl 1 rfl) ?_
    refine lv_aload_n C.1 C.2.1 dX12_isStart_5 rfl (lv_at hl 0 rfl) ?_
    refine m_get C hM 33 (v := .int (σ.1 33)) (by decide) zw_31_18 rfl rfl dX12_isStart_6 ?_
    refine z_re (y := zI ((sz : Nat) : Int)) h33 ?_
    refine y_icmp_ge (tgt := 25) C (a := t) (b := ((sz : Nat) : Int)) dX12_isStart_9 (by decide) (by omega) (fun h9 => ?_) (fun h9 => ?_)
    · refine lv_iconst (v := zI 0) C.1 C.2.1 dX12_isStart_25 (by decide) ?_
      exact hret _ _ _ _ (zI 0) hS ⟨congrArg (fun x : Int => some (zV x)) (bI_0 (decide_eq_false (fun z => absurd (And.intro z.1 z.2.1) (by omega)))), rfl⟩ rfl dX12_isStart_26
    · obtain ⟨k, rfl⟩ : ∃ k : Nat, t = (k : Int) := Int.eq_ofNat_of_zero_le (by omega)
      have hk := hna k (by omega)
      refine lv_aload_n C.1 C.2.1 dX12_isStart_12 rfl (lv_at hl 0 rfl) ?_
      refine m_get C hM 34 (v := .ref (ad 34)) (by decide) zw_5_13 rfl rfl dX12_isStart_13 ?_
      refine lv_iload_n C.1 C.2.1 dX12_isStart_16 rfl (lv_at hl 1 rfl) ?_
      refine m_ald C hM 34 (by decide) k (t := ((k : Nat) : Int)) rfl (by show _ < 1201; omega) dX12_isStart_17 ?_
      refine z_re (y := zI (na k)) hk.1 ?_
      refine y_if_lt (tgt := 25) C (a := na k) dX12_isStart_18 (by decide) (by omega) (fun h18 => ?_) (fun h18 => ?_)
      · refine lv_iconst (v := zI 0) C.1 C.2.1 dX12_isStart_25 (by decide) ?_
        exact hret _ _ _ _ (zI 0) hS ⟨congrArg (fun x : Int => some (zV x)) (bI_0 (decide_eq_false (fun z => absurd (show 0 ≤ na k from z.2.2) (by omega)))), rfl⟩ rfl dX12_isStart_26
      · refine lv_iconst (v := zI 1) C.1 C.2.1 dX12_isStart_21 (by decide) ?_
        refine lv_goto (tgt := 26) C.1 C.2.1 dX12_isStart_22 (by decide) ?_
        exact hret _ _ _ _ (zI 1) hS ⟨congrArg (fun x : Int => some (zV x)) (bI_1 (decide_eq_true ⟨by omega, by omega, (show 0 ≤ na k by omega)⟩)), rfl⟩ rfl dX12_isStart_26

set_option maxHeartbeats 4000000 in
set_option maxRecDepth 20000 in
theorem c_X12_take (l : Launch) (Z : zT) {H : Heap} {o : Nat} {ad : Nat → Nat} {σ : mS} (hM : isM Z H o ad σ) {k ca sz : Nat} (hk : k < 24) (h27 : σ.2.1 27 k = zI (ca : Int)) (h28 : σ.2.1 28 k = zI (sz : Int)) : zM l Z yX12_take cX12_take 2 none (rmk 1) [.ref o, zN k] H (mA o ad) 0 0 (fun v H' => v = none ∧ isM Z H' o ad (sx (sx σ 32 (zI (ca : Int))) 33 (zI (sz : Int)))) := by
  refine zM.introV (own := RX12) ⟨by decide, rfl⟩ (Nat.le_of_ble_eq_true rfl) ?_
  intro p e s m args below meth c Q ls hH C hnm hl hret
  have hS : va_S (mA o ad) s.heap H [] := by rw [hH]; exact va_S.rf
  have hl : lv_has ls 2 [(0, .ref o), (1, zN k)] := hl
  refine lv_aload_n C.1 C.2.1 dX12_take_0 rfl (lv_at hl 0 rfl) ?_
  refine lv_aload_n C.1 C.2.1 dX12_take_1 rfl (lv_at hl 0 rfl) ?_
  refine m_get C hM 27 (v := .ref (ad 27)) (by decide) zw_5_9 rfl rfl dX12_take_2 ?_
  refine lv_iload_n C.1 C.2.1 dX12_take_5 rfl (lv_at hl 1 rfl) ?_
  refine m_ald C hM 27 (by decide) k (t := ((k : Nat) : Int)) rfl (by show _ < 24; omega) dX12_take_6 ?_
  refine z_re (y := zI ((ca : Nat) : Int)) h27 ?_
  refine m_put C hM 32 (sx σ 32 (zI ((ca : Nat) : Int))) rfl rfl (by decide) zw_31_20 rfl rfl rfl rfl hS dX12_take_7 (fun H locs hM hS => ?_)
  refine lv_aload_n C.1 C.2.1 dX12_take_10 rfl (lv_at hl 0 rfl) ?_
  refine lv_aload_n C.1 C.2.1 dX12_take_11 rfl (lv_at hl 0 rfl) ?_
  refine m_get C hM 28 (v := .ref (ad 28)) (by decide) zw_5_10 rfl rfl dX12_take_12 ?_
  refine lv_iload_n C.1 C.2.1 dX12_take_15 rfl (lv_at hl 1 rfl) ?_
  refine m_ald C hM 28 (by decide) k (t := ((k : Nat) : Int)) rfl (by show _ < 24; omega) dX12_take_16 ?_
  refine z_re (y := zI ((sz : Nat) : Int)) h28 ?_
  refine m_put C hM 33 (sx (sx σ 32 (zI ((ca : Nat) : Int))) 33 (zI ((sz : Nat) : Int))) rfl rfl (by decide) zw_31_18 rfl rfl rfl rfl hS dX12_take_17 (fun H locs hM hS => ?_)
  exact hret _ _ _ _ hS ⟨rfl, hM⟩ dX12_take_20
