/-! the model: word, feed, end, read -/
/-- the k-th byte of a word, as the rows hold it -/
def bt (v : Int32) (k : Nat) : Int32 := (v >>> (zI (24 - ((8 * k : Nat) : Int)) &&& 31)).toInt8.toInt32
theorem bt_bt (v : Int32) (k : Nat) : (bt v k).toInt8.toInt32 = bt v k := by
  unfold bt
  rw [Int8.toInt8_toInt32]
def fb (x1 x2 x3 x4 x5 : Int32) (k : Nat) : Int32 := if k < 4 then bt x1 k else if k < 8 then bt x2 (k - 4) else if k < 12 then bt x3 (k - 8) else if k < 16 then bt x4 (k - 12) else bt x5 (k - 16)
theorem fb_1 {x1 x2 x3 x4 x5 : Int32} {k : Nat} (h : k < 4) : fb x1 x2 x3 x4 x5 k = bt x1 k := if_pos h
theorem fb_2 {x1 x2 x3 x4 x5 : Int32} {k : Nat} (h : k < 4) : fb x1 x2 x3 x4 x5 (4 + k) = bt x2 k := by unfold fb; rw [if_neg (by omega), if_pos (by omega), Nat.add_sub_cancel_left]
theorem fb_3 {x1 x2 x3 x4 x5 : Int32} {k : Nat} (h : k < 4) : fb x1 x2 x3 x4 x5 (8 + k) = bt x3 k := by unfold fb; rw [if_neg (by omega), if_neg (by omega), if_pos (by omega), Nat.add_sub_cancel_left]
theorem fb_4 {x1 x2 x3 x4 x5 : Int32} {k : Nat} (h : k < 4) : fb x1 x2 x3 x4 x5 (12 + k) = bt x4 k := by unfold fb; rw [if_neg (by omega), if_neg (by omega), if_neg (by omega), if_pos (by omega), Nat.add_sub_cancel_left]
theorem fb_5 {x1 x2 x3 x4 x5 : Int32} {k : Nat} (h : k < 4) : fb x1 x2 x3 x4 x5 (16 + k) = bt x5 k := by unfold fb; rw [if_neg (by omega), if_neg (by omega), if_neg (by omega), if_neg (by omega), Nat.add_sub_cancel_left]
/-- the state after c more bytes in the tray: those of f -/
def mTr (σ σ' : mS) (t c : Nat) (f : Nat → Int32) : Prop := chg [1] [0] σ σ' ∧ σ'.1 1 = zI ((t + c : Nat) : Int) ∧ (∀ j, j < t → σ'.2.1 0 j = σ.2.1 0 j) ∧ ∀ k, k < c → σ'.2.1 0 (t + k) = f k
theorem mTr.app {σ σ1 σ2 : mS} {t c d : Nat} {f g h : Nat → Int32} (a : mTr σ σ1 t c f) (b : mTr σ1 σ2 (t + c) d g) (e1 : ∀ k, k < c → h k = f k) (e2 : ∀ k, k < d → h (c + k) = g k) : mTr σ σ2 t (c + d) h := by
  obtain ⟨a1, a2, a3, a4⟩ := a
  obtain ⟨b1, b2, b3, b4⟩ := b
  refine ⟨a1.tr b1, by rw [b2, Nat.add_assoc], fun j hj => (b3 j (by omega)).trans (a3 j hj), fun k hk => ?_⟩
  by_cases e : k < c
  · rw [b3 (t + k) (by omega), a4 k e, e1 k e]
  · have := b4 (k - c) (by omega)
    rw [show t + c + (k - c) = t + k by omega] at this
    rw [this, ← e2 (k - c) (by omega), show c + (k - c) = k by omega]

set_option maxHeartbeats 4000000 in
set_option maxRecDepth 20000 in
theorem c_X12_word (l : Launch) (Z : zT) {H : Heap} {o : Nat} {ad : Nat → Nat} {σ : mS} (hM : isM Z H o ad σ) {t : Nat} (h1 : σ.1 1 = zI (t : Int)) (ht : t + 4 ≤ 16000) (v : Int32) : zM l Z yX12_word cX12_word 3 none (rmk 1) [.ref o, .int v] H (mA o ad) 0 0 (fun v' H' => v' = none ∧ ∃ σ' : mS, isM Z H' o ad σ' ∧ mTr σ σ' t 4 (bt v)) := by
  refine zM.introV (own := RX12) ⟨by decide, rfl⟩ (Nat.le_of_ble_eq_true rfl) ?_
  intro p e s m args below meth c Q ls hH C hnm hl hret
  have hS : va_S (mA o ad) s.heap H [] := by rw [hH]; exact va_S.rf
  have hl : lv_has ls 3 [(0, .ref o), (1, .int v)] := hl
  refine lv_iconst (v := zI 0) C.1 C.2.1 dX12_word_0 (by decide) ?_
  refine lv_istore_n (lv' := [(2, zN 0), (0, .ref o), (1, .int v)]) C.1 C.2.1 dX12_word_1 rfl hl (by decide) rfl (fun ls hl => ?_)
  have loop : ∀ (fu : Nat) (k : Nat) (σ1 : mS) (H : Heap) (ls : Array Slot) (locs : List Loc), va_S (mA o ad) s.heap H locs → isM Z H o ad σ1 → (k + fu = 5 ∧ k ≤ 4) → (mTr σ σ1 t k (bt v)) → lv_has ls 3 [(2, zN k), (0, .ref o), (1, .int v)] → W p l e (rmk 1) s m args below meth c H locs 0 0 Q (F0 m 2 ls []) := by
    intro fu
    induction fu with
    | zero =>
      intro k σ1 H ls locs hS hM hk hT hl
      omega
    | succ fu ih_loop =>
      intro k σ1 H ls locs hS hM hk hT hl
      refine lv_iload_n C.1 C.2.1 dX12_word_2 rfl (lv_at hl 0 rfl) ?_
      refine lv_iconst (v := zI 4) C.1 C.2.1 dX12_word_3 (by decide) ?_
      refine y_icmp_ge (tgt := 42) C (a := ((k : Nat) : Int)) (b := 4) dX12_word_4 (by decide) (by omega) (fun h4 => ?_) (fun h4 => ?_)
      · exact hret _ _ _ _ hS ⟨rfl, σ1, hM, (by rw [show k = 4 by omega] at hT; exact hT)⟩ dX12_word_42
      · refine lv_aload_n C.1 C.2.1 dX12_word_7 rfl (lv_at hl 1 rfl) ?_
        refine m_get C hM 0 (v := .ref (ad 0)) (by decide) zw_4_19 rfl rfl dX12_word_8 ?_
        refine lv_aload_n C.1 C.2.1 dX12_word_11 rfl (lv_at hl 1 rfl) ?_
        refine m_get C hM 1 (v := .int (σ1.1 1)) (by decide) zw_6_20 rfl rfl dX12_word_12 ?_
        refine z_re (y := zI ((t + k : Nat) : Int)) hT.2.1 ?_
        refine lv_iload_n C.1 C.2.1 dX12_word_15 rfl (lv_at hl 2 rfl) ?_
        refine lv_bipush (v := zI 24) C.1 C.2.1 dX12_word_16 (by decide) ?_
        refine lv_bipush (v := zI 8) C.1 C.2.1 dX12_word_18 (by decide) ?_
        refine lv_iload_n C.1 C.2.1 dX12_word_20 rfl (lv_at hl 0 rfl) ?_
        refine y_imulN C (a := 8) (b := k) dX12_word_21 ?_
        refine y_isub C (a := 24) (b := ((8 * k : Nat) : Int)) dX12_word_22 ?_
        refine lv_ishr C.1 C.2.1 dX12_word_23 ?_
        refine lv_i2b (v := (v >>> ((zI (24 - ((8 * k : Nat) : Int))) &&& 31)).toInt8.toInt32) C.1 C.2.1 dX12_word_24 rfl ?_
        refine m_bst C hM (t + k) (t := ((t + k : Nat) : Int)) rfl (by omega) hS dX12_word_25 (fun H locs hM hS => ?_)
        refine lv_aload_n C.1 C.2.1 dX12_word_26 rfl (lv_at hl 1 rfl) ?_
        refine lv_dup C.1 C.2.1 dX12_word_27 rfl ?_
        refine m_get C hM 1 (v := .int ((sf σ1 0 (upd (σ1.2.1 0) (t + k) ((v >>> ((zI (24 - ((8 * k : Nat) : Int))) &&& 31)).toInt8.toInt32).toInt8.toInt32)).1 1)) (by decide) zw_6_20 rfl rfl dX12_word_28 ?_
        refine z_re (y := zI ((t + k : Nat) : Int)) hT.2.1 ?_
        refine lv_iconst (v := zI 1) C.1 C.2.1 dX12_word_31 (by decide) ?_
        refine y_iaddN C (a := t + k) (b := 1) dX12_word_32 ?_
        refine m_put C hM 1 (sx (sf σ1 0 (upd (σ1.2.1 0) (t + k) ((v >>> ((zI (24 - ((8 * k : Nat) : Int))) &&& 31)).toInt8.toInt32).toInt8.toInt32)) 1 (zI (((t + k) + 1 : Nat) : Int))) rfl rfl (by decide) zw_6_20 rfl rfl rfl rfl hS dX12_word_33 (fun H locs hM hS => ?_)
        refine lv_iinc (v := zI ((k + 1 : Nat) : Int)) (lv' := [(2, zN (k + 1)), (0, .ref o), (1, .int v)]) C.1 C.2.1 dX12_word_36 hl (k := 0) rfl (zI_add _ _) (by decide) rfl (fun ls hl => ?_)
        refine lv_goto (tgt := 2) C.1 C.2.1 dX12_word_39 (by decide) ?_
        exact ih_loop (k + 1) _ _ ls _ hS hM (by omega) ⟨(chg_sx (by decide) (chg_sf (by decide) hT.1)), (zI_c (by omega)), (fun j hj => (upd_ne (by omega)).trans (hT.2.2.1 j hj)), (fun j hj => by rcases Nat.lt_succ_iff_lt_or_eq.mp hj with h | h; (exact (upd_ne (by omega)).trans (hT.2.2.2 j h)); (subst h; exact upd_2.trans (bt_bt v _)))⟩ hl
  exact loop 5 0 _ _ ls _ hS hM (by omega) ⟨chg.rf, h1, fun _ _ => rfl, fun _ h => absurd h (Nat.not_lt_zero _)⟩ hl

/-- feed's end: the tray has c bytes more, fed counts them -/
def mTr2 (σ σ' : mS) (t c : Nat) (f : Nat → Int32) : Prop := chg [1, 2] [0] σ σ' ∧ σ'.1 1 = zI ((t + c : Nat) : Int) ∧ (∀ j, j < t → σ'.2.1 0 j = σ.2.1 0 j) ∧ ∀ k, k < c → σ'.2.1 0 (t + k) = f k

set_option maxHeartbeats 4000000 in
set_option maxRecDepth 20000 in
theorem c_X12_feed (l : Launch) (Z : zT) {H : Heap} {o : Nat} {ad : Nat → Nat} {σ : mS} (hM : isM Z H o ad σ) {t f : Nat} (h1 : σ.1 1 = zI (t : Int)) (h2 : σ.1 2 = zI (f : Int)) (ht : t ≤ 16000) (hf : f ≤ 65536) (x1 x2 x3 x4 x5 : Int32) : zM l Z yX12_feed cX12_feed 6 (some .int) (rmk 3) [.ref o, .int x1, .int x2, .int x3, .int x4, .int x5] H (mA o ad) 0 0 (fun v H' => ((t + 20 ≤ 16000 ∧ f + 20 ≤ 65536) → v = some (zN (t + 20)) ∧ ∃ σ' : mS, isM Z H' o ad σ' ∧ σ'.1 2 = zI ((f + 20 : Nat) : Int) ∧ mTr2 σ σ' t 20 (fb x1 x2 x3 x4 x5)) ∧ (¬ (t + 20 ≤ 16000 ∧ f + 20 ≤ 65536) → v = some (zV (-1)) ∧ isM Z H' o ad σ)) := by
  refine zM.introI (own := RX12) ⟨by decide, rfl⟩ (Nat.le_of_ble_eq_true rfl) ?_
  intro p e s m args below meth c Q ls hH C hl hret
  have hS : va_S (mA o ad) s.heap H [] := by rw [hH]; exact va_S.rf
  have hl : lv_has ls 6 [(0, .ref o), (1, .int x1), (2, .int x2), (3, .int x3), (4, .int x4), (5, .int x5)] := hl
  refine lv_aload_n C.1 C.2.1 dX12_feed_0 rfl (lv_at hl 0 rfl) ?_
  refine m_get C hM 1 (v := .int (σ.1 1)) (by decide) zw_6_20 rfl rfl dX12_feed_1 ?_
  refine z_re (y := zI ((t : Nat) : Int)) h1 ?_
  refine lv_bipush (v := zI 20) C.1 C.2.1 dX12_feed_4 (by decide) ?_
  refine y_iaddN C (a := t) (b := 20) dX12_feed_6 ?_
  refine lv_sipush (v := zI 16000) C.1 C.2.1 dX12_feed_7 (by decide) ?_
  refine y_icmp_gt (tgt := 25) C (a := ((t + 20 : Nat) : Int)) (b := 16000) dX12_feed_10 (by decide) (by omega) (fun h10 => ?_) (fun h10 => ?_)
  · refine lv_iconst (v := zI (-1)) C.1 C.2.1 dX12_feed_25 (by decide) ?_
    exact hret _ _ _ _ (zI (-1)) hS ⟨fun z => absurd z (by omega), fun _ => ⟨rfl, hM⟩⟩ rfl dX12_feed_26
  · refine lv_aload_n C.1 C.2.1 dX12_feed_13 rfl (lv_at hl 0 rfl) ?_
    refine m_get C hM 2 (v := .int (σ.1 2)) (by decide) zw_6_21 rfl rfl dX12_feed_14 ?_
    refine z_re (y := zI ((f : Nat) : Int)) h2 ?_
    refine lv_bipush (v := zI 20) C.1 C.2.1 dX12_feed_17 (by decide) ?_
    refine y_iaddN C (a := f) (b := 20) dX12_feed_19 ?_
    refine lv_ldc (v := zI 65536) C.1 C.2.1 C.2.2.2.1 (C.2.2.2.2.1 _ zw_6_22) dX12_feed_20 ?_
    refine y_icmp_le (tgt := 27) C (a := ((f + 20 : Nat) : Int)) (b := 65536) dX12_feed_22 (by decide) (by omega) (fun h22 => ?_) (fun h22 => ?_)
    · refine lv_aload_n C.1 C.2.1 dX12_feed_27 rfl (lv_at hl 0 rfl) ?_
      refine lv_iload_n C.1 C.2.1 dX12_feed_28 rfl (lv_at hl 1 rfl) ?_
      refine z_callV C (As := [.int x1]) (rest := []) (c_X12_word l Z hM (t := t) h1 (by omega) x1) hM.1 rfl ⟨⟨zw_7_2, zw_1_5, zw_6_23⟩, zd_X12_word⟩ zw_7_0 zw_7_1 ⟨Nat.le_of_ble_eq_true rfl, Nat.le_of_ble_eq_true rfl⟩ ⟨rfl, rfl⟩ rfl hl.1 rfl (Nat.le_of_ble_eq_true rfl) dX12_feed_29 ⟨Nat.zero_le _, Nat.zero_le _⟩ hS (fun _ h => h) (fun v H locs hp hS _ _ => ?_)
      obtain ⟨rfl, σ1, hM, hT1⟩ := hp
      have hT := hT1.app (h := fb x1 x2 x3 x4 x5) (d := 0) (g := fun _ => 0) ⟨chg.rf, hT1.2.1, fun _ _ => rfl, fun _ h => absurd h (Nat.not_lt_zero _)⟩ (fun k h => fb_1 h) (fun _ h => absurd h (Nat.not_lt_zero _))
      refine lv_aload_n C.1 C.2.1 dX12_feed_32 rfl (lv_at hl 0 rfl) ?_
      refine lv_iload_n C.1 C.2.1 dX12_feed_33 rfl (lv_at hl 2 rfl) ?_
      refine z_callV C (As := [.int x2]) (rest := []) (c_X12_word l Z hM (t := t + 4) hT.2.1 (by omega) x2) hM.1 rfl ⟨⟨zw_7_2, zw_1_5, zw_6_23⟩, zd_X12_word⟩ zw_7_0 zw_7_1 ⟨Nat.le_of_ble_eq_true rfl, Nat.le_of_ble_eq_true rfl⟩ ⟨rfl, rfl⟩ rfl hl.1 rfl (Nat.le_of_ble_eq_true rfl) dX12_feed_34 ⟨Nat.zero_le _, Nat.zero_le _⟩ hS (fun _ h => h) (fun v H locs hp hS _ _ => ?_)
      obtain ⟨rfl, σ2, hM, hT2⟩ := hp
      have hT := hT.app (h := fb x1 x2 x3 x4 x5) hT2 (fun _ _ => rfl) (fun k h => fb_2 h)
      refine lv_aload_n C.1 C.2.1 dX12_feed_37 rfl (lv_at hl 0 rfl) ?_
      refine lv_iload_n C.1 C.2.1 dX12_feed_38 rfl (lv_at hl 3 rfl) ?_
      refine z_callV C (As := [.int x3]) (rest := []) (c_X12_word l Z hM (t := t + 8) hT.2.1 (by omega) x3) hM.1 rfl ⟨⟨zw_7_2, zw_1_5, zw_6_23⟩, zd_X12_word⟩ zw_7_0 zw_7_1 ⟨Nat.le_of_ble_eq_true rfl, Nat.le_of_ble_eq_true rfl⟩ ⟨rfl, rfl⟩ rfl hl.1 rfl (Nat.le_of_ble_eq_true rfl) dX12_feed_39 ⟨Nat.zero_le _, Nat.zero_le _⟩ hS (fun _ h => h) (fun v H locs hp hS _ _ => ?_)
      obtain ⟨rfl, σ3, hM, hT3⟩ := hp
      have hT := hT.app (h := fb x1 x2 x3 x4 x5) hT3 (fun _ _ => rfl) (fun k h => fb_3 h)
      refine lv_aload_n C.1 C.2.1 dX12_feed_42 rfl (lv_at hl 0 rfl) ?_
      refine lv_iload C.1 C.2.1 dX12_feed_43 (lv_at hl 4 rfl) ?_
      refine z_callV C (As := [.int x4]) (rest := []) (c_X12_word l Z hM (t := t + 12) hT.2.1 (by omega) x4) hM.1 rfl ⟨⟨zw_7_2, zw_1_5, zw_6_23⟩, zd_X12_word⟩ zw_7_0 zw_7_1 ⟨Nat.le_of_ble_eq_true rfl, Nat.le_of_ble_eq_true rfl⟩ ⟨rfl, rfl⟩ rfl hl.1 rfl (Nat.le_of_ble_eq_true rfl) dX12_feed_45 ⟨Nat.zero_le _, Nat.zero_le _⟩ hS (fun _ h => h) (fun v H locs hp hS _ _ => ?_)
      obtain ⟨rfl, σ4, hM, hT4⟩ := hp
      have hT := hT.app (h := fb x1 x2 x3 x4 x5) hT4 (fun _ _ => rfl) (fun k h => fb_4 h)
      refine lv_aload_n C.1 C.2.1 dX12_feed_48 rfl (lv_at hl 0 rfl) ?_
      refine lv_iload C.1 C.2.1 dX12_feed_49 (lv_at hl 5 rfl) ?_
      refine z_callV C (As := [.int x5]) (rest := []) (c_X12_word l Z hM (t := t + 16) hT.2.1 (by omega) x5) hM.1 rfl ⟨⟨zw_7_2, zw_1_5, zw_6_23⟩, zd_X12_word⟩ zw_7_0 zw_7_1 ⟨Nat.le_of_ble_eq_true rfl, Nat.le_of_ble_eq_true rfl⟩ ⟨rfl, rfl⟩ rfl hl.1 rfl (Nat.le_of_ble_eq_true rfl) dX12_feed_51 ⟨Nat.zero_le _, Nat.zero_le _⟩ hS (fun _ h => h) (fun v H locs hp hS _ _ => ?_)
      obtain ⟨rfl, σ5, hM, hT5⟩ := hp
      have hT := hT.app (h := fb x1 x2 x3 x4 x5) hT5 (fun _ _ => rfl) (fun k h => fb_5 h)
      refine lv_aload_n C.1 C.2.1 dX12_feed_54 rfl (lv_at hl 0 rfl) ?_
      refine lv_dup C.1 C.2.1 dX12_feed_55 rfl ?_
      refine m_get C hM 2 (v := .int (σ5.1 2)) (by decide) zw_6_21 rfl rfl dX12_feed_56 ?_
      refine z_re (y := zI ((f : Nat) : Int)) ((hT.1.1 2 (by decide)).trans h2) ?_
      refine lv_bipush (v := zI 20) C.1 C.2.1 dX12_feed_59 (by decide) ?_
      refine y_iaddN C (a := f) (b := 20) dX12_feed_61 ?_
      refine m_put C hM 2 (sx σ5 2 (zI ((f + 20 : Nat) : Int))) rfl rfl (by decide) zw_6_21 rfl rfl rfl rfl hS dX12_feed_62 (fun H locs hM hS => ?_)
      refine lv_aload_n C.1 C.2.1 dX12_feed_65 rfl (lv_at hl 0 rfl) ?_
      refine m_get C hM 1 (v := .int ((sx σ5 2 (zI ((f + 20 : Nat) : Int))).1 1)) (by decide) zw_6_20 rfl rfl dX12_feed_66 ?_
      refine z_re (y := zI ((t + 20 : Nat) : Int)) hT.2.1 ?_
      exact hret _ _ _ _ (zI ((t + 20 : Nat) : Int)) hS ⟨fun _ => ⟨rfl, _, hM, rfl, chg_sx (by decide) (hT.1.mono (by decide) (by decide)), hT.2.1, hT.2.2.1, hT.2.2.2⟩, fun z => absurd (And.intro (by omega) (by omega)) z⟩ rfl dX12_feed_69
    · refine lv_iconst (v := zI (-1)) C.1 C.2.1 dX12_feed_25 (by decide) ?_
      exact hret _ _ _ _ (zI (-1)) hS ⟨fun z => absurd z (by omega), fun _ => ⟨rfl, hM⟩⟩ rfl dX12_feed_26

set_option maxHeartbeats 4000000 in
set_option maxRecDepth 20000 in
theorem c_X12_end (l : Launch) (Z : zT) {H : Heap} {o : Nat} {ad : Nat → Nat} {σ : mS} (hM : isM Z H o ad σ) {t : Nat} (k1 : σ.1 1 = zI (t : Int)) (ht : t ≤ 16000) (x : Int) (hx : -2147483648 ≤ x ∧ x ≤ 2147483647) : zM l Z yX12_end cX12_end 2 (some .boolean) (rmk 1) [.ref o, zV x] H (mA o ad) 0 0 (fun v H' => ((0 ≤ x ∧ x ≤ (t : Int)) → v = some (zV 1) ∧ isM Z H' o ad (sx σ 1 (zI x))) ∧ (¬ (0 ≤ x ∧ x ≤ (t : Int)) → v = some (zV 0) ∧ isM Z H' o ad σ)) := by
  refine zM.introI (own := RX12) ⟨by decide, rfl⟩ (Nat.le_of_ble_eq_true rfl) ?_
  intro p e s m args below meth c Q ls hH C hl hret
  have hS : va_S (mA o ad) s.heap H [] := by rw [hH]; exact va_S.rf
  have hl : lv_has ls 2 [(0, .ref o), (1, zV x)] := hl
  refine lv_iload_n C.1 C.2.1 dX12_end_0 rfl (lv_at hl 1 rfl) ?_
  refine y_if_lt (tgt := 12) C (a := x) dX12_end_1 (by decide) (by omega) (fun h1 => ?_) (fun h1 => ?_)
  · refine lv_iconst (v := zI 0) C.1 C.2.1 dX12_end_12 (by decide) ?_
    exact hret _ _ _ _ (zI 0) hS ⟨fun z => absurd z (by omega), fun _ => ⟨rfl, hM⟩⟩ rfl dX12_end_13
  · refine lv_iload_n C.1 C.2.1 dX12_end_4 rfl (lv_at hl 1 rfl) ?_
    refine lv_aload_n C.1 C.2.1 dX12_end_5 rfl (lv_at hl 0 rfl) ?_
    refine m_get C hM 1 (v := .int (σ.1 1)) (by decide) zw_6_20 rfl rfl dX12_end_6 ?_
    refine z_re (y := zI ((t : Nat) : Int)) k1 ?_
    refine y_icmp_le (tgt := 14) C (a := x) (b := ((t : Nat) : Int)) dX12_end_9 (by decide) (by omega) (fun h9 => ?_) (fun h9 => ?_)
    · refine lv_aload_n C.1 C.2.1 dX12_end_14 rfl (lv_at hl 0 rfl) ?_
      refine lv_iload_n C.1 C.2.1 dX12_end_15 rfl (lv_at hl 1 rfl) ?_
      refine m_put C hM 1 (sx σ 1 (zI x)) rfl rfl (by decide) zw_6_20 rfl rfl rfl rfl hS dX12_end_16 (fun H locs hM hS => ?_)
      refine lv_iconst (v := zI 1) C.1 C.2.1 dX12_end_19 (by decide) ?_
      exact hret _ _ _ _ (zI 1) hS ⟨fun _ => ⟨rfl, hM⟩, fun z => absurd (And.intro (by omega) (by omega)) z⟩ rfl dX12_end_20
    · refine lv_iconst (v := zI 0) C.1 C.2.1 dX12_end_12 (by decide) ?_
      exact hret _ _ _ _ (zI 0) hS ⟨fun z => absurd z (by omega), fun _ => ⟨rfl, hM⟩⟩ rfl dX12_end_13
